/-! the law's cases -/
set_option maxHeartbeats 4000000 in
set_option maxRecDepth 100000 in
theorem cs_0 {g : zG} {ad : Int → Nat} {p : Program} {l : Launch} {e : Env} {R : Room} {s : State} {m : MethodId} {below : List Frame} {meth : Method} {c : Code} {Q : State → Prop} {b L : Nat} {xs : Nat → Int32} {H : Heap} {locs : List Loc} {cells slots : Nat} {ls : Array Slot} {M F : zMem} {t d i : Int} (C0 : zC g (fun q => s.heap.size ≤ q) p s m #[.ref b] c cL_law 9 "DrumWarrenLaw") (hX : va_X b L xs s s.heap) (hbl : b < s.heap.size) (hL : L ≤ 2048) (hst : l.stackTraces = false) (hR : 100 ≤ R.frames ∧ 10000 ≤ R.locals) (hf : cells + 3 ≤ R.cells ∧ slots + 18 ≤ R.slots) (Wd : zW g (fun q => s.heap.size ≤ q) s.heap 410 ad M F H locs) (hl : lv_has ls 9 [(5, .int (zI i)), (0, .ref b), (1, .ref (ad 0)), (2, .ref (ad 398)), (3, .ref (ad 408)), (4, .ref (ad 409))]) (h : zCR t d M F) (ht : t ≤ 50000000) (hd : d ≤ 9000) (i0 : 0 ≤ i) (i4 : i + 4 ≤ (L : Int)) (kk : ∀ (M' F' : zMem) (H1 : Heap) (locs1 : List Loc) (ls1 : Array Slot) (c1 s1 : Nat), zCR (t + 7000) (d + 9) M' F' → zW g (fun q => s.heap.size ≤ q) s.heap 410 ad M' F' H1 locs1 → lv_has ls1 9 [(5, .int (zI i)), (0, .ref b), (1, .ref (ad 0)), (2, .ref (ad 398)), (3, .ref (ad 408)), (4, .ref (ad 409))] → c1 ≤ cells + 3 → s1 ≤ slots + 18 → W p l e R s m #[.ref b] below meth c H1 locs1 c1 s1 Q (F0 m 2902 ls1 [])) : W p l e R s m #[.ref b] below meth c H locs cells slots Q (F0 m 268 ls []) := by
  refine z_aload_n C0 hl 2 rfl dL_law_268 ?_
  refine z_aload_n C0 hl 4 rfl dL_law_269 ?_
  obtain ⟨post, hh1, hh2⟩ := lw_addChamber l g ad h ht hd Wd.2
  refine z_invSH (As := [.ref (ad 0), .ref (ad 408)]) (rest := []) C0 Wd hst hh1 hs_addChamber zk_533 rfl hl.1 rfl (Nat.le_of_ble_eq_true rfl) ⟨by omega, by omega⟩ ⟨by omega, by omega⟩ dL_law_270 (fun k M1 F1 H locs hk hp Wd => ?_)
  refine z_istore C0 hl [(6, .int (zI k)), (5, .int (zI i)), (0, .ref b), (1, .ref (ad 0)), (2, .ref (ad 398)), (3, .ref (ad 408)), (4, .ref (ad 409))] (by decide) rfl dL_law_273 (fun ls hl => ?_)
  refine z_aload_n C0 hl 4 rfl dL_law_275 ?_
  obtain ⟨pm, hm1, hm2⟩ := hh2 k M1 F1 hp Wd.2
  refine z_invAi (As := []) (rest := []) C0 Wd hm1 hm2 kv_X12_addChamber zN398 (zE_9 zK398) rfl zk_1674 rfl hl.1 rfl (Nat.le_of_ble_eq_true rfl) ⟨by omega, by omega⟩ ⟨by omega, by omega⟩ dL_law_276 (fun bb M2 F2 H locs hbz e8 e9 hcr Wd => ?_)
  refine z_istore C0 hl [(7, .int (zI bb)), (6, .int (zI k)), (5, .int (zI i)), (0, .ref b), (1, .ref (ad 0)), (2, .ref (ad 398)), (3, .ref (ad 408)), (4, .ref (ad 409))] (by decide) rfl dL_law_279 (fun ls hl => ?_)
  refine z_aload_n C0 hl 5 rfl dL_law_281 ?_
  refine z_invVi (As := []) (rest := []) C0 Wd (ct_X12_thrown l g ad M2 F2) kv_X12_thrown zN398 (zE_9 zK398) rfl zk_1670 rfl hl.1 rfl (Nat.le_of_ble_eq_true rfl) ⟨by omega, by omega⟩ ⟨by omega, by omega⟩ dL_law_282 (fun r3 M3 F3 H locs hr3 hp3 Wd => ?_)
  obtain ⟨rfl, rfl, rfl⟩ := hp3
  refine z_iload C0 hl 1 rfl dL_law_285 ?_
  refine z_icmp_eq C0 (tgt := 292) hr3 hk dL_law_287 (by decide) (fun _ => ?_) (fun c9 => absurd e8 c9)
  refine z_iload C0 hl 1 rfl dL_law_292 ?_
  refine z_if_ne C0 (tgt := 309) hk dL_law_294 (by decide) (fun k0 => ?_) (fun k0 => ?_)
  · skip
    refine z_goto C0 (tgt := 2902) dL_law_309 (by decide) ?_
    exact kk M2 F2 H locs ls _ _ (zCR_up hcr (by omega) (by omega)) Wd (lv_sub hl [2, 3, 4, 5, 6, 7] rfl) (by omega) (by omega)
  · skip
    have e9 := e9 k0
    refine z_aload_n C0 hl 6 rfl dL_law_297 ?_
    refine z_iconst C0 dL_law_298 ?_
    refine z_lald C0 Wd zN408 zK408 zL408 (by decide) (by decide) (by decide) dL_law_299 ?_
    refine z_iload C0 hl 0 rfl dL_law_300 ?_
    refine z_i2l C0 hbz dL_law_302 ?_
    refine z_lcmpE C0 e9 dL_law_303 ?_
    refine z_if_eq C0 (tgt := 309) (zR_mk (by decide) (by decide)) dL_law_304 (by decide) (fun _ => ?_) (fun h9 => absurd rfl h9)
    refine z_goto C0 (tgt := 2902) dL_law_309 (by decide) ?_
    exact kk M2 F2 H locs ls _ _ (zCR_up hcr (by omega) (by omega)) Wd (lv_sub hl [2, 3, 4, 5, 6, 7] rfl) (by omega) (by omega)
set_option maxHeartbeats 4000000 in
set_option maxRecDepth 100000 in
theorem cs_1 {g : zG} {ad : Int → Nat} {p : Program} {l : Launch} {e : Env} {R : Room} {s : State} {m : MethodId} {below : List Frame} {meth : Method} {c : Code} {Q : State → Prop} {b L : Nat} {xs : Nat → Int32} {H : Heap} {locs : List Loc} {cells slots : Nat} {ls : Array Slot} {M F : zMem} {t d i : Int} (C0 : zC g (fun q => s.heap.size ≤ q) p s m #[.ref b] c cL_law 9 "DrumWarrenLaw") (hX : va_X b L xs s s.heap) (hbl : b < s.heap.size) (hL : L ≤ 2048) (hst : l.stackTraces = false) (hR : 100 ≤ R.frames ∧ 10000 ≤ R.locals) (hf : cells + 3 ≤ R.cells ∧ slots + 18 ≤ R.slots) (Wd : zW g (fun q => s.heap.size ≤ q) s.heap 410 ad M F H locs) (hl : lv_has ls 9 [(5, .int (zI i)), (0, .ref b), (1, .ref (ad 0)), (2, .ref (ad 398)), (3, .ref (ad 408)), (4, .ref (ad 409))]) (h : zCR t d M F) (ht : t ≤ 50000000) (hd : d ≤ 9000) (i0 : 0 ≤ i) (i4 : i + 4 ≤ (L : Int)) (kk : ∀ (M' F' : zMem) (H1 : Heap) (locs1 : List Loc) (ls1 : Array Slot) (c1 s1 : Nat), zCR (t + 7000) (d + 9) M' F' → zW g (fun q => s.heap.size ≤ q) s.heap 410 ad M' F' H1 locs1 → lv_has ls1 9 [(5, .int (zI i)), (0, .ref b), (1, .ref (ad 0)), (2, .ref (ad 398)), (3, .ref (ad 408)), (4, .ref (ad 409))] → c1 ≤ cells + 3 → s1 ≤ slots + 18 → W p l e R s m #[.ref b] below meth c H1 locs1 c1 s1 Q (F0 m 2902 ls1 [])) : W p l e R s m #[.ref b] below meth c H locs cells slots Q (F0 m 312 ls []) := by
  refine z_aload_n C0 hl 2 rfl dL_law_312 ?_
  refine z_aload_n C0 hl 1 rfl dL_law_313 ?_
  refine z_iload C0 hl 0 rfl dL_law_314 ?_
  refine z_iconst C0 dL_law_316 ?_
  refine z_iadd C0 dL_law_317 ?_
  refine z_sld C0 Wd hX hbl (Nat.not_le.mpr hbl) (by omega) (by omega) hL dL_law_318 ?_
  refine z_aload_n C0 hl 1 rfl dL_law_319 ?_
  refine z_iload C0 hl 0 rfl dL_law_320 ?_
  refine z_iconst C0 dL_law_322 ?_
  refine z_iadd C0 dL_law_323 ?_
  refine z_sld C0 Wd hX hbl (Nat.not_le.mpr hbl) (by omega) (by omega) hL dL_law_324 ?_
  refine z_aload_n C0 hl 1 rfl dL_law_325 ?_
  refine z_iload C0 hl 0 rfl dL_law_326 ?_
  refine z_iconst C0 dL_law_328 ?_
  refine z_iadd C0 dL_law_329 ?_
  refine z_sld C0 Wd hX hbl (Nat.not_le.mpr hbl) (by omega) (by omega) hL dL_law_330 ?_
  refine z_aload_n C0 hl 4 rfl dL_law_331 ?_
  obtain ⟨post, hh1, hh2⟩ := lw_addTunnel l g ad h ht hd Wd.2 (sx xs (i + 1)) (sx_R _ _) (sx xs (i + 2)) (sx_R _ _) (sx xs (i + 3)) (sx_R _ _)
  refine z_invSH (As := [.ref (ad 0), .int (zI (sx xs (i + 1))), .int (zI (sx xs (i + 2))), .int (zI (sx xs (i + 3))), .ref (ad 408)]) (rest := []) C0 Wd hst hh1 hs_addTunnel zk_692 rfl hl.1 rfl (Nat.le_of_ble_eq_true rfl) ⟨by omega, by omega⟩ ⟨by omega, by omega⟩ dL_law_332 (fun k M1 F1 H locs hk hp Wd => ?_)
  refine z_istore C0 hl [(6, .int (zI k)), (5, .int (zI i)), (0, .ref b), (1, .ref (ad 0)), (2, .ref (ad 398)), (3, .ref (ad 408)), (4, .ref (ad 409))] (by decide) rfl dL_law_335 (fun ls hl => ?_)
  refine z_aload_n C0 hl 4 rfl dL_law_337 ?_
  refine z_aload_n C0 hl 2 rfl dL_law_338 ?_
  refine z_iload C0 hl 1 rfl dL_law_339 ?_
  refine z_iconst C0 dL_law_341 ?_
  refine z_iadd C0 dL_law_342 ?_
  refine z_sld C0 Wd hX hbl (Nat.not_le.mpr hbl) (by omega) (by omega) hL dL_law_343 ?_
  refine z_aload_n C0 hl 2 rfl dL_law_344 ?_
  refine z_iload C0 hl 1 rfl dL_law_345 ?_
  refine z_iconst C0 dL_law_347 ?_
  refine z_iadd C0 dL_law_348 ?_
  refine z_sld C0 Wd hX hbl (Nat.not_le.mpr hbl) (by omega) (by omega) hL dL_law_349 ?_
  refine z_aload_n C0 hl 2 rfl dL_law_350 ?_
  refine z_iload C0 hl 1 rfl dL_law_351 ?_
  refine z_iconst C0 dL_law_353 ?_
  refine z_iadd C0 dL_law_354 ?_
  refine z_sld C0 Wd hX hbl (Nat.not_le.mpr hbl) (by omega) (by omega) hL dL_law_355 ?_
  obtain ⟨pm, hm1, hm2⟩ := hh2 k M1 F1 hp Wd.2
  refine z_invAi (As := [.int (zI (sx xs (i + 1))), .int (zI (sx xs (i + 2))), .int (zI (sx xs (i + 3)))]) (rest := []) C0 Wd hm1 hm2 kv_X12_addTunnel zN398 (zE_9 zK398) rfl zk_1695 rfl hl.1 rfl (Nat.le_of_ble_eq_true rfl) ⟨by omega, by omega⟩ ⟨by omega, by omega⟩ dL_law_356 (fun bb M2 F2 H locs hbz e8 e9 hcr Wd => ?_)
  refine z_istore C0 hl [(7, .int (zI bb)), (6, .int (zI k)), (5, .int (zI i)), (0, .ref b), (1, .ref (ad 0)), (2, .ref (ad 398)), (3, .ref (ad 408)), (4, .ref (ad 409))] (by decide) rfl dL_law_359 (fun ls hl => ?_)
  refine z_aload_n C0 hl 5 rfl dL_law_361 ?_
  refine z_invVi (As := []) (rest := []) C0 Wd (ct_X12_thrown l g ad M2 F2) kv_X12_thrown zN398 (zE_9 zK398) rfl zk_1670 rfl hl.1 rfl (Nat.le_of_ble_eq_true rfl) ⟨by omega, by omega⟩ ⟨by omega, by omega⟩ dL_law_362 (fun r3 M3 F3 H locs hr3 hp3 Wd => ?_)
  obtain ⟨rfl, rfl, rfl⟩ := hp3
  refine z_iload C0 hl 1 rfl dL_law_365 ?_
  refine z_icmp_eq C0 (tgt := 372) hr3 hk dL_law_367 (by decide) (fun _ => ?_) (fun c9 => absurd e8 c9)
  refine z_iload C0 hl 1 rfl dL_law_372 ?_
  refine z_if_ne C0 (tgt := 389) hk dL_law_374 (by decide) (fun k0 => ?_) (fun k0 => ?_)
  · skip
    refine z_goto C0 (tgt := 2902) dL_law_389 (by decide) ?_
    exact kk M2 F2 H locs ls _ _ (zCR_up hcr (by omega) (by omega)) Wd (lv_sub hl [2, 3, 4, 5, 6, 7] rfl) (by omega) (by omega)
  · skip
    have e9 := e9 k0
    refine z_aload_n C0 hl 6 rfl dL_law_377 ?_
    refine z_iconst C0 dL_law_378 ?_
    refine z_lald C0 Wd zN408 zK408 zL408 (by decide) (by decide) (by decide) dL_law_379 ?_
    refine z_iload C0 hl 0 rfl dL_law_380 ?_
    refine z_i2l C0 hbz dL_law_382 ?_
    refine z_lcmpE C0 e9 dL_law_383 ?_
    refine z_if_eq C0 (tgt := 389) (zR_mk (by decide) (by decide)) dL_law_384 (by decide) (fun _ => ?_) (fun h9 => absurd rfl h9)
    refine z_goto C0 (tgt := 2902) dL_law_389 (by decide) ?_
    exact kk M2 F2 H locs ls _ _ (zCR_up hcr (by omega) (by omega)) Wd (lv_sub hl [2, 3, 4, 5, 6, 7] rfl) (by omega) (by omega)
set_option maxHeartbeats 4000000 in
set_option maxRecDepth 100000 in
theorem cs_2 {g : zG} {ad : Int → Nat} {p : Program} {l : Launch} {e : Env} {R : Room} {s : State} {m : MethodId} {below : List Frame} {meth : Method} {c : Code} {Q : State → Prop} {b L : Nat} {xs : Nat → Int32} {H : Heap} {locs : List Loc} {cells slots : Nat} {ls : Array Slot} {M F : zMem} {t d i : Int} (C0 : zC g (fun q => s.heap.size ≤ q) p s m #[.ref b] c cL_law 9 "DrumWarrenLaw") (hX : va_X b L xs s s.heap) (hbl : b < s.heap.size) (hL : L ≤ 2048) (hst : l.stackTraces = false) (hR : 100 ≤ R.frames ∧ 10000 ≤ R.locals) (hf : cells + 3 ≤ R.cells ∧ slots + 18 ≤ R.slots) (Wd : zW g (fun q => s.heap.size ≤ q) s.heap 410 ad M F H locs) (hl : lv_has ls 9 [(5, .int (zI i)), (0, .ref b), (1, .ref (ad 0)), (2, .ref (ad 398)), (3, .ref (ad 408)), (4, .ref (ad 409))]) (h : zCR t d M F) (ht : t ≤ 50000000) (hd : d ≤ 9000) (i0 : 0 ≤ i) (i4 : i + 4 ≤ (L : Int)) (kk : ∀ (M' F' : zMem) (H1 : Heap) (locs1 : List Loc) (ls1 : Array Slot) (c1 s1 : Nat), zCR (t + 7000) (d + 9) M' F' → zW g (fun q => s.heap.size ≤ q) s.heap 410 ad M' F' H1 locs1 → lv_has ls1 9 [(5, .int (zI i)), (0, .ref b), (1, .ref (ad 0)), (2, .ref (ad 398)), (3, .ref (ad 408)), (4, .ref (ad 409))] → c1 ≤ cells + 3 → s1 ≤ slots + 18 → W p l e R s m #[.ref b] below meth c H1 locs1 c1 s1 Q (F0 m 2902 ls1 [])) : W p l e R s m #[.ref b] below meth c H locs cells slots Q (F0 m 392 ls []) := by
  refine z_aload_n C0 hl 2 rfl dL_law_392 ?_
  refine z_aload_n C0 hl 1 rfl dL_law_393 ?_
  refine z_iload C0 hl 0 rfl dL_law_394 ?_
  refine z_iconst C0 dL_law_396 ?_
  refine z_iadd C0 dL_law_397 ?_
  refine z_sld C0 Wd hX hbl (Nat.not_le.mpr hbl) (by omega) (by omega) hL dL_law_398 ?_
  refine z_aload_n C0 hl 1 rfl dL_law_399 ?_
  refine z_iload C0 hl 0 rfl dL_law_400 ?_
  refine z_iconst C0 dL_law_402 ?_
  refine z_iadd C0 dL_law_403 ?_
  refine z_sld C0 Wd hX hbl (Nat.not_le.mpr hbl) (by omega) (by omega) hL dL_law_404 ?_
  refine z_aload_n C0 hl 4 rfl dL_law_405 ?_
  obtain ⟨post, hh1, hh2⟩ := lw_removeTunnel l g ad h ht hd Wd.2 (sx xs (i + 1)) (sx_R _ _) (sx xs (i + 2)) (sx_R _ _)
  refine z_invSH (As := [.ref (ad 0), .int (zI (sx xs (i + 1))), .int (zI (sx xs (i + 2))), .ref (ad 408)]) (rest := []) C0 Wd hst hh1 hs_removeTunnel zk_733 rfl hl.1 rfl (Nat.le_of_ble_eq_true rfl) ⟨by omega, by omega⟩ ⟨by omega, by omega⟩ dL_law_406 (fun k M1 F1 H locs hk hp Wd => ?_)
  refine z_istore C0 hl [(6, .int (zI k)), (5, .int (zI i)), (0, .ref b), (1, .ref (ad 0)), (2, .ref (ad 398)), (3, .ref (ad 408)), (4, .ref (ad 409))] (by decide) rfl dL_law_409 (fun ls hl => ?_)
  refine z_aload_n C0 hl 4 rfl dL_law_411 ?_
  refine z_aload_n C0 hl 2 rfl dL_law_412 ?_
  refine z_iload C0 hl 1 rfl dL_law_413 ?_
  refine z_iconst C0 dL_law_415 ?_
  refine z_iadd C0 dL_law_416 ?_
  refine z_sld C0 Wd hX hbl (Nat.not_le.mpr hbl) (by omega) (by omega) hL dL_law_417 ?_
  refine z_aload_n C0 hl 2 rfl dL_law_418 ?_
  refine z_iload C0 hl 1 rfl dL_law_419 ?_
  refine z_iconst C0 dL_law_421 ?_
  refine z_iadd C0 dL_law_422 ?_
  refine z_sld C0 Wd hX hbl (Nat.not_le.mpr hbl) (by omega) (by omega) hL dL_law_423 ?_
  obtain ⟨pm, hm1, hm2⟩ := hh2 k M1 F1 hp Wd.2
  refine z_invAi (As := [.int (zI (sx xs (i + 1))), .int (zI (sx xs (i + 2)))]) (rest := []) C0 Wd hm1 hm2 kv_X12_removeTunnel zN398 (zE_9 zK398) rfl zk_1717 rfl hl.1 rfl (Nat.le_of_ble_eq_true rfl) ⟨by omega, by omega⟩ ⟨by omega, by omega⟩ dL_law_424 (fun bb M2 F2 H locs hbz e8 e9 hcr Wd => ?_)
  refine z_istore C0 hl [(7, .int (zI bb)), (6, .int (zI k)), (5, .int (zI i)), (0, .ref b), (1, .ref (ad 0)), (2, .ref (ad 398)), (3, .ref (ad 408)), (4, .ref (ad 409))] (by decide) rfl dL_law_427 (fun ls hl => ?_)
  refine z_aload_n C0 hl 5 rfl dL_law_429 ?_
  refine z_invVi (As := []) (rest := []) C0 Wd (ct_X12_thrown l g ad M2 F2) kv_X12_thrown zN398 (zE_9 zK398) rfl zk_1670 rfl hl.1 rfl (Nat.le_of_ble_eq_true rfl) ⟨by omega, by omega⟩ ⟨by omega, by omega⟩ dL_law_430 (fun r3 M3 F3 H locs hr3 hp3 Wd => ?_)
  obtain ⟨rfl, rfl, rfl⟩ := hp3
  refine z_iload C0 hl 1 rfl dL_law_433 ?_
  refine z_icmp_eq C0 (tgt := 440) hr3 hk dL_law_435 (by decide) (fun _ => ?_) (fun c9 => absurd e8 c9)
  refine z_iload C0 hl 1 rfl dL_law_440 ?_
  refine z_if_ne C0 (tgt := 457) hk dL_law_442 (by decide) (fun k0 => ?_) (fun k0 => ?_)
  · skip
    refine z_goto C0 (tgt := 2902) dL_law_457 (by decide) ?_
    exact kk M2 F2 H locs ls _ _ (zCR_up hcr (by omega) (by omega)) Wd (lv_sub hl [2, 3, 4, 5, 6, 7] rfl) (by omega) (by omega)
  · skip
    have e9 := e9 k0
    refine z_aload_n C0 hl 6 rfl dL_law_445 ?_
    refine z_iconst C0 dL_law_446 ?_
    refine z_lald C0 Wd zN408 zK408 zL408 (by decide) (by decide) (by decide) dL_law_447 ?_
    refine z_iload C0 hl 0 rfl dL_law_448 ?_
    refine z_i2l C0 hbz dL_law_450 ?_
    refine z_lcmpE C0 e9 dL_law_451 ?_
    refine z_if_eq C0 (tgt := 457) (zR_mk (by decide) (by decide)) dL_law_452 (by decide) (fun _ => ?_) (fun h9 => absurd rfl h9)
    refine z_goto C0 (tgt := 2902) dL_law_457 (by decide) ?_
    exact kk M2 F2 H locs ls _ _ (zCR_up hcr (by omega) (by omega)) Wd (lv_sub hl [2, 3, 4, 5, 6, 7] rfl) (by omega) (by omega)
set_option maxHeartbeats 4000000 in
set_option maxRecDepth 100000 in
theorem cs_3 {g : zG} {ad : Int → Nat} {p : Program} {l : Launch} {e : Env} {R : Room} {s : State} {m : MethodId} {below : List Frame} {meth : Method} {c : Code} {Q : State → Prop} {b L : Nat} {xs : Nat → Int32} {H : Heap} {locs : List Loc} {cells slots : Nat} {ls : Array Slot} {M F : zMem} {t d i : Int} (C0 : zC g (fun q => s.heap.size ≤ q) p s m #[.ref b] c cL_law 9 "DrumWarrenLaw") (hX : va_X b L xs s s.heap) (hbl : b < s.heap.size) (hL : L ≤ 2048) (hst : l.stackTraces = false) (hR : 100 ≤ R.frames ∧ 10000 ≤ R.locals) (hf : cells + 3 ≤ R.cells ∧ slots + 18 ≤ R.slots) (Wd : zW g (fun q => s.heap.size ≤ q) s.heap 410 ad M F H locs) (hl : lv_has ls 9 [(5, .int (zI i)), (0, .ref b), (1, .ref (ad 0)), (2, .ref (ad 398)), (3, .ref (ad 408)), (4, .ref (ad 409))]) (h : zCR t d M F) (ht : t ≤ 50000000) (hd : d ≤ 9000) (i0 : 0 ≤ i) (i4 : i + 4 ≤ (L : Int)) (kk : ∀ (M' F' : zMem) (H1 : Heap) (locs1 : List Loc) (ls1 : Array Slot) (c1 s1 : Nat), zCR (t + 7000) (d + 9) M' F' → zW g (fun q => s.heap.size ≤ q) s.heap 410 ad M' F' H1 locs1 → lv_has ls1 9 [(5, .int (zI i)), (0, .ref b), (1, .ref (ad 0)), (2, .ref (ad 398)), (3, .ref (ad 408)), (4, .ref (ad 409))] → c1 ≤ cells + 3 → s1 ≤ slots + 18 → W p l e R s m #[.ref b] below meth c H1 locs1 c1 s1 Q (F0 m 2902 ls1 [])) : W p l e R s m #[.ref b] below meth c H locs cells slots Q (F0 m 460 ls []) := by
  refine z_aload_n C0 hl 2 rfl dL_law_460 ?_
  obtain ⟨post, hh1, hh2⟩ := lp_chamberCount l g ad h ht hd Wd.2
  refine z_invVi (As := []) (rest := []) C0 Wd hh1 kv_X11_chamberCount zN0 (zE_8 zK0) rfl zk_409 rfl hl.1 rfl (Nat.le_of_ble_eq_true rfl) ⟨by omega, by omega⟩ ⟨by omega, by omega⟩ dL_law_461 (fun k M1 F1 H locs hk hp Wd => ?_)
  refine z_aload_n C0 hl 3 rfl dL_law_464 ?_
  obtain ⟨pm, hm1, hm2⟩ := hh2 k M1 F1 hp Wd.2
  refine z_invVi (As := []) (rest := [.int (zI k)]) C0 Wd hm1 kv_X12_chamberCount zN398 (zE_9 zK398) rfl zk_1725 rfl hl.1 rfl (Nat.le_of_ble_eq_true rfl) ⟨by omega, by omega⟩ ⟨by omega, by omega⟩ dL_law_465 (fun bb M2 F2 H locs hbz hp2 Wd => ?_)
  obtain ⟨e9, hcr⟩ := hm2 bb M2 F2 hp2
  refine z_icmp_eq C0 (tgt := 2902) hk hbz dL_law_468 (by decide) (fun _ => ?_) (fun c9 => absurd e9.symm c9)
  exact kk M2 F2 H locs ls _ _ (zCR_up hcr (by omega) (by omega)) Wd (lv_sub hl [0, 1, 2, 3, 4, 5] rfl) (by omega) (by omega)
set_option maxHeartbeats 4000000 in
set_option maxRecDepth 100000 in
theorem cs_4 {g : zG} {ad : Int → Nat} {p : Program} {l : Launch} {e : Env} {R : Room} {s : State} {m : MethodId} {below : List Frame} {meth : Method} {c : Code} {Q : State → Prop} {b L : Nat} {xs : Nat → Int32} {H : Heap} {locs : List Loc} {cells slots : Nat} {ls : Array Slot} {M F : zMem} {t d i : Int} (C0 : zC g (fun q => s.heap.size ≤ q) p s m #[.ref b] c cL_law 9 "DrumWarrenLaw") (hX : va_X b L xs s s.heap) (hbl : b < s.heap.size) (hL : L ≤ 2048) (hst : l.stackTraces = false) (hR : 100 ≤ R.frames ∧ 10000 ≤ R.locals) (hf : cells + 3 ≤ R.cells ∧ slots + 18 ≤ R.slots) (Wd : zW g (fun q => s.heap.size ≤ q) s.heap 410 ad M F H locs) (hl : lv_has ls 9 [(5, .int (zI i)), (0, .ref b), (1, .ref (ad 0)), (2, .ref (ad 398)), (3, .ref (ad 408)), (4, .ref (ad 409))]) (h : zCR t d M F) (ht : t ≤ 50000000) (hd : d ≤ 9000) (i0 : 0 ≤ i) (i4 : i + 4 ≤ (L : Int)) (kk : ∀ (M' F' : zMem) (H1 : Heap) (locs1 : List Loc) (ls1 : Array Slot) (c1 s1 : Nat), zCR (t + 7000) (d + 9) M' F' → zW g (fun q => s.heap.size ≤ q) s.heap 410 ad M' F' H1 locs1 → lv_has ls1 9 [(5, .int (zI i)), (0, .ref b), (1, .ref (ad 0)), (2, .ref (ad 398)), (3, .ref (ad 408)), (4, .ref (ad 409))] → c1 ≤ cells + 3 → s1 ≤ slots + 18 → W p l e R s m #[.ref b] below meth c H1 locs1 c1 s1 Q (F0 m 2902 ls1 [])) : W p l e R s m #[.ref b] below meth c H locs cells slots Q (F0 m 473 ls []) := by
  refine z_aload_n C0 hl 2 rfl dL_law_473 ?_
  obtain ⟨post, hh1, hh2⟩ := lp_tunnelCount l g ad h ht hd Wd.2
  refine z_invVi (As := []) (rest := []) C0 Wd hh1 kv_X11_tunnelCount zN0 (zE_8 zK0) rfl zk_413 rfl hl.1 rfl (Nat.le_of_ble_eq_true rfl) ⟨by omega, by omega⟩ ⟨by omega, by omega⟩ dL_law_474 (fun k M1 F1 H locs hk hp Wd => ?_)
  refine z_aload_n C0 hl 3 rfl dL_law_477 ?_
  obtain ⟨pm, hm1, hm2⟩ := hh2 k M1 F1 hp Wd.2
  refine z_invVi (As := []) (rest := [.int (zI k)]) C0 Wd hm1 kv_X12_tunnelCount zN398 (zE_9 zK398) rfl zk_1729 rfl hl.1 rfl (Nat.le_of_ble_eq_true rfl) ⟨by omega, by omega⟩ ⟨by omega, by omega⟩ dL_law_478 (fun bb M2 F2 H locs hbz hp2 Wd => ?_)
  obtain ⟨e9, hcr⟩ := hm2 bb M2 F2 hp2
  refine z_icmp_eq C0 (tgt := 2902) hk hbz dL_law_481 (by decide) (fun _ => ?_) (fun c9 => absurd e9.symm c9)
  exact kk M2 F2 H locs ls _ _ (zCR_up hcr (by omega) (by omega)) Wd (lv_sub hl [0, 1, 2, 3, 4, 5] rfl) (by omega) (by omega)
set_option maxHeartbeats 4000000 in
set_option maxRecDepth 100000 in
theorem cs_5 {g : zG} {ad : Int → Nat} {p : Program} {l : Launch} {e : Env} {R : Room} {s : State} {m : MethodId} {below : List Frame} {meth : Method} {c : Code} {Q : State → Prop} {b L : Nat} {xs : Nat → Int32} {H : Heap} {locs : List Loc} {cells slots : Nat} {ls : Array Slot} {M F : zMem} {t d i : Int} (C0 : zC g (fun q => s.heap.size ≤ q) p s m #[.ref b] c cL_law 9 "DrumWarrenLaw") (hX : va_X b L xs s s.heap) (hbl : b < s.heap.size) (hL : L ≤ 2048) (hst : l.stackTraces = false) (hR : 100 ≤ R.frames ∧ 10000 ≤ R.locals) (hf : cells + 3 ≤ R.cells ∧ slots + 18 ≤ R.slots) (Wd : zW g (fun q => s.heap.size ≤ q) s.heap 410 ad M F H locs) (hl : lv_has ls 9 [(5, .int (zI i)), (0, .ref b), (1, .ref (ad 0)), (2, .ref (ad 398)), (3, .ref (ad 408)), (4, .ref (ad 409))]) (h : zCR t d M F) (ht : t ≤ 50000000) (hd : d ≤ 9000) (i0 : 0 ≤ i) (i4 : i + 4 ≤ (L : Int)) (kk : ∀ (M' F' : zMem) (H1 : Heap) (locs1 : List Loc) (ls1 : Array Slot) (c1 s1 : Nat), zCR (t + 7000) (d + 9) M' F' → zW g (fun q => s.heap.size ≤ q) s.heap 410 ad M' F' H1 locs1 → lv_has ls1 9 [(5, .int (zI i)), (0, .ref b), (1, .ref (ad 0)), (2, .ref (ad 398)), (3, .ref (ad 408)), (4, .ref (ad 409))] → c1 ≤ cells + 3 → s1 ≤ slots + 18 → W p l e R s m #[.ref b] below meth c H1 locs1 c1 s1 Q (F0 m 2902 ls1 [])) : W p l e R s m #[.ref b] below meth c H locs cells slots Q (F0 m 486 ls []) := by
  refine z_aload_n C0 hl 2 rfl dL_law_486 ?_
  refine z_aload_n C0 hl 1 rfl dL_law_487 ?_
  refine z_iload C0 hl 0 rfl dL_law_488 ?_
  refine z_iconst C0 dL_law_490 ?_
  refine z_iadd C0 dL_law_491 ?_
  refine z_sld C0 Wd hX hbl (Nat.not_le.mpr hbl) (by omega) (by omega) hL dL_law_492 ?_
  refine z_aload_n C0 hl 1 rfl dL_law_493 ?_
  refine z_iload C0 hl 0 rfl dL_law_494 ?_
  refine z_iconst C0 dL_law_496 ?_
  refine z_iadd C0 dL_law_497 ?_
  refine z_sld C0 Wd hX hbl (Nat.not_le.mpr hbl) (by omega) (by omega) hL dL_law_498 ?_
  refine z_aload_n C0 hl 4 rfl dL_law_499 ?_
  obtain ⟨post, hh1, hh2⟩ := lw_tunnelDelay l g ad h ht hd Wd.2 (sx xs (i + 1)) (sx_R _ _) (sx xs (i + 2)) (sx_R _ _)
  refine z_invSH (As := [.ref (ad 0), .int (zI (sx xs (i + 1))), .int (zI (sx xs (i + 2))), .ref (ad 408)]) (rest := []) C0 Wd hst hh1 hs_tunnelDelay zk_748 rfl hl.1 rfl (Nat.le_of_ble_eq_true rfl) ⟨by omega, by omega⟩ ⟨by omega, by omega⟩ dL_law_500 (fun k M1 F1 H locs hk hp Wd => ?_)
  refine z_istore C0 hl [(6, .int (zI k)), (5, .int (zI i)), (0, .ref b), (1, .ref (ad 0)), (2, .ref (ad 398)), (3, .ref (ad 408)), (4, .ref (ad 409))] (by decide) rfl dL_law_503 (fun ls hl => ?_)
  refine z_aload_n C0 hl 4 rfl dL_law_505 ?_
  refine z_aload_n C0 hl 2 rfl dL_law_506 ?_
  refine z_iload C0 hl 1 rfl dL_law_507 ?_
  refine z_iconst C0 dL_law_509 ?_
  refine z_iadd C0 dL_law_510 ?_
  refine z_sld C0 Wd hX hbl (Nat.not_le.mpr hbl) (by omega) (by omega) hL dL_law_511 ?_
  refine z_aload_n C0 hl 2 rfl dL_law_512 ?_
  refine z_iload C0 hl 1 rfl dL_law_513 ?_
  refine z_iconst C0 dL_law_515 ?_
  refine z_iadd C0 dL_law_516 ?_
  refine z_sld C0 Wd hX hbl (Nat.not_le.mpr hbl) (by omega) (by omega) hL dL_law_517 ?_
  obtain ⟨pm, hm1, hm2⟩ := hh2 k M1 F1 hp Wd.2
  refine z_invAi (As := [.int (zI (sx xs (i + 1))), .int (zI (sx xs (i + 2)))]) (rest := []) C0 Wd hm1 hm2 kv_X12_tunnelDelay zN398 (zE_9 zK398) rfl zk_1733 rfl hl.1 rfl (Nat.le_of_ble_eq_true rfl) ⟨by omega, by omega⟩ ⟨by omega, by omega⟩ dL_law_518 (fun bb M2 F2 H locs hbz e8 e9 hcr Wd => ?_)
  refine z_istore C0 hl [(7, .int (zI bb)), (6, .int (zI k)), (5, .int (zI i)), (0, .ref b), (1, .ref (ad 0)), (2, .ref (ad 398)), (3, .ref (ad 408)), (4, .ref (ad 409))] (by decide) rfl dL_law_521 (fun ls hl => ?_)
  refine z_aload_n C0 hl 5 rfl dL_law_523 ?_
  refine z_invVi (As := []) (rest := []) C0 Wd (ct_X12_thrown l g ad M2 F2) kv_X12_thrown zN398 (zE_9 zK398) rfl zk_1670 rfl hl.1 rfl (Nat.le_of_ble_eq_true rfl) ⟨by omega, by omega⟩ ⟨by omega, by omega⟩ dL_law_524 (fun r3 M3 F3 H locs hr3 hp3 Wd => ?_)
  obtain ⟨rfl, rfl, rfl⟩ := hp3
  refine z_iload C0 hl 1 rfl dL_law_527 ?_
  refine z_icmp_eq C0 (tgt := 534) hr3 hk dL_law_529 (by decide) (fun _ => ?_) (fun c9 => absurd e8 c9)
  refine z_iload C0 hl 1 rfl dL_law_534 ?_
  refine z_if_ne C0 (tgt := 551) hk dL_law_536 (by decide) (fun k0 => ?_) (fun k0 => ?_)
  · skip
    refine z_goto C0 (tgt := 2902) dL_law_551 (by decide) ?_
    exact kk M2 F2 H locs ls _ _ (zCR_up hcr (by omega) (by omega)) Wd (lv_sub hl [2, 3, 4, 5, 6, 7] rfl) (by omega) (by omega)
  · skip
    have e9 := e9 k0
    refine z_aload_n C0 hl 6 rfl dL_law_539 ?_
    refine z_iconst C0 dL_law_540 ?_
    refine z_lald C0 Wd zN408 zK408 zL408 (by decide) (by decide) (by decide) dL_law_541 ?_
    refine z_iload C0 hl 0 rfl dL_law_542 ?_
    refine z_i2l C0 hbz dL_law_544 ?_
    refine z_lcmpE C0 e9 dL_law_545 ?_
    refine z_if_eq C0 (tgt := 551) (zR_mk (by decide) (by decide)) dL_law_546 (by decide) (fun _ => ?_) (fun h9 => absurd rfl h9)
    refine z_goto C0 (tgt := 2902) dL_law_551 (by decide) ?_
    exact kk M2 F2 H locs ls _ _ (zCR_up hcr (by omega) (by omega)) Wd (lv_sub hl [2, 3, 4, 5, 6, 7] rfl) (by omega) (by omega)
set_option maxHeartbeats 4000000 in
set_option maxRecDepth 100000 in
theorem cs_6 {g : zG} {ad : Int → Nat} {p : Program} {l : Launch} {e : Env} {R : Room} {s : State} {m : MethodId} {below : List Frame} {meth : Method} {c : Code} {Q : State → Prop} {b L : Nat} {xs : Nat → Int32} {H : Heap} {locs : List Loc} {cells slots : Nat} {ls : Array Slot} {M F : zMem} {t d i : Int} (C0 : zC g (fun q => s.heap.size ≤ q) p s m #[.ref b] c cL_law 9 "DrumWarrenLaw") (hX : va_X b L xs s s.heap) (hbl : b < s.heap.size) (hL : L ≤ 2048) (hst : l.stackTraces = false) (hR : 100 ≤ R.frames ∧ 10000 ≤ R.locals) (hf : cells + 3 ≤ R.cells ∧ slots + 18 ≤ R.slots) (Wd : zW g (fun q => s.heap.size ≤ q) s.heap 410 ad M F H locs) (hl : lv_has ls 9 [(5, .int (zI i)), (0, .ref b), (1, .ref (ad 0)), (2, .ref (ad 398)), (3, .ref (ad 408)), (4, .ref (ad 409))]) (h : zCR t d M F) (ht : t ≤ 50000000) (hd : d ≤ 9000) (i0 : 0 ≤ i) (i4 : i + 4 ≤ (L : Int)) (kk : ∀ (M' F' : zMem) (H1 : Heap) (locs1 : List Loc) (ls1 : Array Slot) (c1 s1 : Nat), zCR (t + 7000) (d + 9) M' F' → zW g (fun q => s.heap.size ≤ q) s.heap 410 ad M' F' H1 locs1 → lv_has ls1 9 [(5, .int (zI i)), (0, .ref b), (1, .ref (ad 0)), (2, .ref (ad 398)), (3, .ref (ad 408)), (4, .ref (ad 409))] → c1 ≤ cells + 3 → s1 ≤ slots + 18 → W p l e R s m #[.ref b] below meth c H1 locs1 c1 s1 Q (F0 m 2902 ls1 [])) : W p l e R s m #[.ref b] below meth c H locs cells slots Q (F0 m 554 ls []) := by
  refine z_aload_n C0 hl 2 rfl dL_law_554 ?_
  refine z_aload_n C0 hl 1 rfl dL_law_555 ?_
  refine z_iload C0 hl 0 rfl dL_law_556 ?_
  refine z_iconst C0 dL_law_558 ?_
  refine z_iadd C0 dL_law_559 ?_
  refine z_sld C0 Wd hX hbl (Nat.not_le.mpr hbl) (by omega) (by omega) hL dL_law_560 ?_
  refine z_aload_n C0 hl 1 rfl dL_law_561 ?_
  refine z_iload C0 hl 0 rfl dL_law_562 ?_
  refine z_iconst C0 dL_law_564 ?_
  refine z_iadd C0 dL_law_565 ?_
  refine z_sld C0 Wd hX hbl (Nat.not_le.mpr hbl) (by omega) (by omega) hL dL_law_566 ?_
  refine z_aload_n C0 hl 4 rfl dL_law_567 ?_
  obtain ⟨post, hh1, hh2⟩ := lw_shortestDelay l g ad h ht hd Wd.2 (sx xs (i + 1)) (sx_R _ _) (sx xs (i + 2)) (sx_R _ _)
  refine z_invSH (As := [.ref (ad 0), .int (zI (sx xs (i + 1))), .int (zI (sx xs (i + 2))), .ref (ad 408)]) (rest := []) C0 Wd hst hh1 hs_shortestDelay zk_762 rfl hl.1 rfl (Nat.le_of_ble_eq_true rfl) ⟨by omega, by omega⟩ ⟨by omega, by omega⟩ dL_law_568 (fun k M1 F1 H locs hk hp Wd => ?_)
  refine z_istore C0 hl [(6, .int (zI k)), (5, .int (zI i)), (0, .ref b), (1, .ref (ad 0)), (2, .ref (ad 398)), (3, .ref (ad 408)), (4, .ref (ad 409))] (by decide) rfl dL_law_571 (fun ls hl => ?_)
  refine z_aload_n C0 hl 4 rfl dL_law_573 ?_
  refine z_aload_n C0 hl 2 rfl dL_law_574 ?_
  refine z_iload C0 hl 1 rfl dL_law_575 ?_
  refine z_iconst C0 dL_law_577 ?_
  refine z_iadd C0 dL_law_578 ?_
  refine z_sld C0 Wd hX hbl (Nat.not_le.mpr hbl) (by omega) (by omega) hL dL_law_579 ?_
  refine z_aload_n C0 hl 2 rfl dL_law_580 ?_
  refine z_iload C0 hl 1 rfl dL_law_581 ?_
  refine z_iconst C0 dL_law_583 ?_
  refine z_iadd C0 dL_law_584 ?_
  refine z_sld C0 Wd hX hbl (Nat.not_le.mpr hbl) (by omega) (by omega) hL dL_law_585 ?_
  obtain ⟨pm, hm1, hm2⟩ := hh2 k M1 F1 hp Wd.2
  refine z_invAi (As := [.int (zI (sx xs (i + 1))), .int (zI (sx xs (i + 2)))]) (rest := []) C0 Wd hm1 hm2 kv_X12_shortestDelay zN398 (zE_9 zK398) rfl zk_1737 rfl hl.1 rfl (Nat.le_of_ble_eq_true rfl) ⟨by omega, by omega⟩ ⟨by omega, by omega⟩ dL_law_586 (fun bb M2 F2 H locs hbz e8 e9 hcr Wd => ?_)
  refine z_istore C0 hl [(7, .int (zI bb)), (6, .int (zI k)), (5, .int (zI i)), (0, .ref b), (1, .ref (ad 0)), (2, .ref (ad 398)), (3, .ref (ad 408)), (4, .ref (ad 409))] (by decide) rfl dL_law_589 (fun ls hl => ?_)
  refine z_aload_n C0 hl 5 rfl dL_law_591 ?_
  refine z_invVi (As := []) (rest := []) C0 Wd (ct_X12_thrown l g ad M2 F2) kv_X12_thrown zN398 (zE_9 zK398) rfl zk_1670 rfl hl.1 rfl (Nat.le_of_ble_eq_true rfl) ⟨by omega, by omega⟩ ⟨by omega, by omega⟩ dL_law_592 (fun r3 M3 F3 H locs hr3 hp3 Wd => ?_)
  obtain ⟨rfl, rfl, rfl⟩ := hp3
  refine z_iload C0 hl 1 rfl dL_law_595 ?_
  refine z_icmp_eq C0 (tgt := 602) hr3 hk dL_law_597 (by decide) (fun _ => ?_) (fun c9 => absurd e8 c9)
  refine z_iload C0 hl 1 rfl dL_law_602 ?_
  refine z_if_ne C0 (tgt := 619) hk dL_law_604 (by decide) (fun k0 => ?_) (fun k0 => ?_)
  · skip
    refine z_goto C0 (tgt := 2902) dL_law_619 (by decide) ?_
    exact kk M2 F2 H locs ls _ _ (zCR_up hcr (by omega) (by omega)) Wd (lv_sub hl [2, 3, 4, 5, 6, 7] rfl) (by omega) (by omega)
  · skip
    have e9 := e9 k0
    refine z_aload_n C0 hl 6 rfl dL_law_607 ?_
    refine z_iconst C0 dL_law_608 ?_
    refine z_lald C0 Wd zN408 zK408 zL408 (by decide) (by decide) (by decide) dL_law_609 ?_
    refine z_iload C0 hl 0 rfl dL_law_610 ?_
    refine z_i2l C0 hbz dL_law_612 ?_
    refine z_lcmpE C0 e9 dL_law_613 ?_
    refine z_if_eq C0 (tgt := 619) (zR_mk (by decide) (by decide)) dL_law_614 (by decide) (fun _ => ?_) (fun h9 => absurd rfl h9)
    refine z_goto C0 (tgt := 2902) dL_law_619 (by decide) ?_
    exact kk M2 F2 H locs ls _ _ (zCR_up hcr (by omega) (by omega)) Wd (lv_sub hl [2, 3, 4, 5, 6, 7] rfl) (by omega) (by omega)
set_option maxHeartbeats 4000000 in
set_option maxRecDepth 100000 in
theorem cs_7 {g : zG} {ad : Int → Nat} {p : Program} {l : Launch} {e : Env} {R : Room} {s : State} {m : MethodId} {below : List Frame} {meth : Method} {c : Code} {Q : State → Prop} {b L : Nat} {xs : Nat → Int32} {H : Heap} {locs : List Loc} {cells slots : Nat} {ls : Array Slot} {M F : zMem} {t d i : Int} (C0 : zC g (fun q => s.heap.size ≤ q) p s m #[.ref b] c cL_law 9 "DrumWarrenLaw") (hX : va_X b L xs s s.heap) (hbl : b < s.heap.size) (hL : L ≤ 2048) (hst : l.stackTraces = false) (hR : 100 ≤ R.frames ∧ 10000 ≤ R.locals) (hf : cells + 3 ≤ R.cells ∧ slots + 18 ≤ R.slots) (Wd : zW g (fun q => s.heap.size ≤ q) s.heap 410 ad M F H locs) (hl : lv_has ls 9 [(5, .int (zI i)), (0, .ref b), (1, .ref (ad 0)), (2, .ref (ad 398)), (3, .ref (ad 408)), (4, .ref (ad 409))]) (h : zCR t d M F) (ht : t ≤ 50000000) (hd : d ≤ 9000) (i0 : 0 ≤ i) (i4 : i + 4 ≤ (L : Int)) (kk : ∀ (M' F' : zMem) (H1 : Heap) (locs1 : List Loc) (ls1 : Array Slot) (c1 s1 : Nat), zCR (t + 7000) (d + 9) M' F' → zW g (fun q => s.heap.size ≤ q) s.heap 410 ad M' F' H1 locs1 → lv_has ls1 9 [(5, .int (zI i)), (0, .ref b), (1, .ref (ad 0)), (2, .ref (ad 398)), (3, .ref (ad 408)), (4, .ref (ad 409))] → c1 ≤ cells + 3 → s1 ≤ slots + 18 → W p l e R s m #[.ref b] below meth c H1 locs1 c1 s1 Q (F0 m 2902 ls1 [])) : W p l e R s m #[.ref b] below meth c H locs cells slots Q (F0 m 622 ls []) := by
  refine z_aload_n C0 hl 2 rfl dL_law_622 ?_
  refine z_aload_n C0 hl 1 rfl dL_law_623 ?_
  refine z_iload C0 hl 0 rfl dL_law_624 ?_
  refine z_iconst C0 dL_law_626 ?_
  refine z_iadd C0 dL_law_627 ?_
  refine z_sld C0 Wd hX hbl (Nat.not_le.mpr hbl) (by omega) (by omega) hL dL_law_628 ?_
  refine z_aload_n C0 hl 1 rfl dL_law_629 ?_
  refine z_iload C0 hl 0 rfl dL_law_630 ?_
  refine z_iconst C0 dL_law_632 ?_
  refine z_iadd C0 dL_law_633 ?_
  refine z_sld C0 Wd hX hbl (Nat.not_le.mpr hbl) (by omega) (by omega) hL dL_law_634 ?_
  refine z_aload_n C0 hl 4 rfl dL_law_635 ?_
  obtain ⟨post, hh1, hh2⟩ := lw_shortestDelayBySearch l g ad h ht hd Wd.2 (sx xs (i + 1)) (sx_R _ _) (sx xs (i + 2)) (sx_R _ _)
  refine z_invSH (As := [.ref (ad 0), .int (zI (sx xs (i + 1))), .int (zI (sx xs (i + 2))), .ref (ad 408)]) (rest := []) C0 Wd hst hh1 hs_shortestDelayBySearch zk_774 rfl hl.1 rfl (Nat.le_of_ble_eq_true rfl) ⟨by omega, by omega⟩ ⟨by omega, by omega⟩ dL_law_636 (fun k M1 F1 H locs hk hp Wd => ?_)
  refine z_istore C0 hl [(6, .int (zI k)), (5, .int (zI i)), (0, .ref b), (1, .ref (ad 0)), (2, .ref (ad 398)), (3, .ref (ad 408)), (4, .ref (ad 409))] (by decide) rfl dL_law_639 (fun ls hl => ?_)
  refine z_aload_n C0 hl 4 rfl dL_law_641 ?_
  refine z_aload_n C0 hl 2 rfl dL_law_642 ?_
  refine z_iload C0 hl 1 rfl dL_law_643 ?_
  refine z_iconst C0 dL_law_645 ?_
  refine z_iadd C0 dL_law_646 ?_
  refine z_sld C0 Wd hX hbl (Nat.not_le.mpr hbl) (by omega) (by omega) hL dL_law_647 ?_
  refine z_aload_n C0 hl 2 rfl dL_law_648 ?_
  refine z_iload C0 hl 1 rfl dL_law_649 ?_
  refine z_iconst C0 dL_law_651 ?_
  refine z_iadd C0 dL_law_652 ?_
  refine z_sld C0 Wd hX hbl (Nat.not_le.mpr hbl) (by omega) (by omega) hL dL_law_653 ?_
  obtain ⟨pm, hm1, hm2⟩ := hh2 k M1 F1 hp Wd.2
  refine z_invAi (As := [.int (zI (sx xs (i + 1))), .int (zI (sx xs (i + 2)))]) (rest := []) C0 Wd hm1 hm2 kv_X12_shortestDelayBySearch zN398 (zE_9 zK398) rfl zk_1745 rfl hl.1 rfl (Nat.le_of_ble_eq_true rfl) ⟨by omega, by omega⟩ ⟨by omega, by omega⟩ dL_law_654 (fun bb M2 F2 H locs hbz e8 e9 hcr Wd => ?_)
  refine z_istore C0 hl [(7, .int (zI bb)), (6, .int (zI k)), (5, .int (zI i)), (0, .ref b), (1, .ref (ad 0)), (2, .ref (ad 398)), (3, .ref (ad 408)), (4, .ref (ad 409))] (by decide) rfl dL_law_657 (fun ls hl => ?_)
  refine z_aload_n C0 hl 5 rfl dL_law_659 ?_
  refine z_invVi (As := []) (rest := []) C0 Wd (ct_X12_thrown l g ad M2 F2) kv_X12_thrown zN398 (zE_9 zK398) rfl zk_1670 rfl hl.1 rfl (Nat.le_of_ble_eq_true rfl) ⟨by omega, by omega⟩ ⟨by omega, by omega⟩ dL_law_660 (fun r3 M3 F3 H locs hr3 hp3 Wd => ?_)
  obtain ⟨rfl, rfl, rfl⟩ := hp3
  refine z_iload C0 hl 1 rfl dL_law_663 ?_
  refine z_icmp_eq C0 (tgt := 670) hr3 hk dL_law_665 (by decide) (fun _ => ?_) (fun c9 => absurd e8 c9)
  refine z_iload C0 hl 1 rfl dL_law_670 ?_
  refine z_if_ne C0 (tgt := 687) hk dL_law_672 (by decide) (fun k0 => ?_) (fun k0 => ?_)
  · skip
    refine z_goto C0 (tgt := 2902) dL_law_687 (by decide) ?_
    exact kk M2 F2 H locs ls _ _ (zCR_up hcr (by omega) (by omega)) Wd (lv_sub hl [2, 3, 4, 5, 6, 7] rfl) (by omega) (by omega)
  · skip
    have e9 := e9 k0
    refine z_aload_n C0 hl 6 rfl dL_law_675 ?_
    refine z_iconst C0 dL_law_676 ?_
    refine z_lald C0 Wd zN408 zK408 zL408 (by decide) (by decide) (by decide) dL_law_677 ?_
    refine z_iload C0 hl 0 rfl dL_law_678 ?_
    refine z_i2l C0 hbz dL_law_680 ?_
    refine z_lcmpE C0 e9 dL_law_681 ?_
    refine z_if_eq C0 (tgt := 687) (zR_mk (by decide) (by decide)) dL_law_682 (by decide) (fun _ => ?_) (fun h9 => absurd rfl h9)
    refine z_goto C0 (tgt := 2902) dL_law_687 (by decide) ?_
    exact kk M2 F2 H locs ls _ _ (zCR_up hcr (by omega) (by omega)) Wd (lv_sub hl [2, 3, 4, 5, 6, 7] rfl) (by omega) (by omega)
set_option maxHeartbeats 4000000 in
set_option maxRecDepth 100000 in
theorem cs_8 {g : zG} {ad : Int → Nat} {p : Program} {l : Launch} {e : Env} {R : Room} {s : State} {m : MethodId} {below : List Frame} {meth : Method} {c : Code} {Q : State → Prop} {b L : Nat} {xs : Nat → Int32} {H : Heap} {locs : List Loc} {cells slots : Nat} {ls : Array Slot} {M F : zMem} {t d i : Int} (C0 : zC g (fun q => s.heap.size ≤ q) p s m #[.ref b] c cL_law 9 "DrumWarrenLaw") (hX : va_X b L xs s s.heap) (hbl : b < s.heap.size) (hL : L ≤ 2048) (hst : l.stackTraces = false) (hR : 100 ≤ R.frames ∧ 10000 ≤ R.locals) (hf : cells + 3 ≤ R.cells ∧ slots + 18 ≤ R.slots) (Wd : zW g (fun q => s.heap.size ≤ q) s.heap 410 ad M F H locs) (hl : lv_has ls 9 [(5, .int (zI i)), (0, .ref b), (1, .ref (ad 0)), (2, .ref (ad 398)), (3, .ref (ad 408)), (4, .ref (ad 409))]) (h : zCR t d M F) (ht : t ≤ 50000000) (hd : d ≤ 9000) (i0 : 0 ≤ i) (i4 : i + 4 ≤ (L : Int)) (kk : ∀ (M' F' : zMem) (H1 : Heap) (locs1 : List Loc) (ls1 : Array Slot) (c1 s1 : Nat), zCR (t + 7000) (d + 9) M' F' → zW g (fun q => s.heap.size ≤ q) s.heap 410 ad M' F' H1 locs1 → lv_has ls1 9 [(5, .int (zI i)), (0, .ref b), (1, .ref (ad 0)), (2, .ref (ad 398)), (3, .ref (ad 408)), (4, .ref (ad 409))] → c1 ≤ cells + 3 → s1 ≤ slots + 18 → W p l e R s m #[.ref b] below meth c H1 locs1 c1 s1 Q (F0 m 2902 ls1 [])) : W p l e R s m #[.ref b] below meth c H locs cells slots Q (F0 m 690 ls []) := by
  refine z_aload_n C0 hl 2 rfl dL_law_690 ?_
  refine z_aload_n C0 hl 1 rfl dL_law_691 ?_
  refine z_iload C0 hl 0 rfl dL_law_692 ?_
  refine z_iconst C0 dL_law_694 ?_
  refine z_iadd C0 dL_law_695 ?_
  refine z_sld C0 Wd hX hbl (Nat.not_le.mpr hbl) (by omega) (by omega) hL dL_law_696 ?_
  refine z_aload_n C0 hl 1 rfl dL_law_697 ?_
  refine z_iload C0 hl 0 rfl dL_law_698 ?_
  refine z_iconst C0 dL_law_700 ?_
  refine z_iadd C0 dL_law_701 ?_
  refine z_sld C0 Wd hX hbl (Nat.not_le.mpr hbl) (by omega) (by omega) hL dL_law_702 ?_
  refine z_aload C0 hl 5 rfl dL_law_703 ?_
  obtain ⟨post, hh1, hh2⟩ := lw_loudness l g ad h ht hd Wd.2 (sx xs (i + 1)) (sx_R _ _) (sx xs (i + 2)) (sx_R _ _)
  refine z_invSH (As := [.ref (ad 0), .int (zI (sx xs (i + 1))), .int (zI (sx xs (i + 2))), .ref (ad 409)]) (rest := []) C0 Wd hst hh1 hs_loudness zk_782 rfl hl.1 rfl (Nat.le_of_ble_eq_true rfl) ⟨by omega, by omega⟩ ⟨by omega, by omega⟩ dL_law_705 (fun k M1 F1 H locs hk hp Wd => ?_)
  refine z_istore C0 hl [(6, .int (zI k)), (5, .int (zI i)), (0, .ref b), (1, .ref (ad 0)), (2, .ref (ad 398)), (3, .ref (ad 408)), (4, .ref (ad 409))] (by decide) rfl dL_law_708 (fun ls hl => ?_)
  refine z_aload_n C0 hl 4 rfl dL_law_710 ?_
  refine z_aload_n C0 hl 2 rfl dL_law_711 ?_
  refine z_iload C0 hl 1 rfl dL_law_712 ?_
  refine z_iconst C0 dL_law_714 ?_
  refine z_iadd C0 dL_law_715 ?_
  refine z_sld C0 Wd hX hbl (Nat.not_le.mpr hbl) (by omega) (by omega) hL dL_law_716 ?_
  refine z_aload_n C0 hl 2 rfl dL_law_717 ?_
  refine z_iload C0 hl 1 rfl dL_law_718 ?_
  refine z_iconst C0 dL_law_720 ?_
  refine z_iadd C0 dL_law_721 ?_
  refine z_sld C0 Wd hX hbl (Nat.not_le.mpr hbl) (by omega) (by omega) hL dL_law_722 ?_
  obtain ⟨pm, hm1, hm2⟩ := hh2 k M1 F1 hp Wd.2
  refine z_invAf (As := [.int (zI (sx xs (i + 1))), .int (zI (sx xs (i + 2)))]) (rest := []) C0 Wd hm1 hm2 kv_X12_loudness zN398 (zE_9 zK398) rfl zk_1750 rfl hl.1 rfl (Nat.le_of_ble_eq_true rfl) ⟨by omega, by omega⟩ ⟨by omega, by omega⟩ dL_law_723 (fun bb M2 F2 H locs e8 e9 hcr Wd => ?_)
  refine z_fstore C0 hl [(7, .float bb), (6, .int (zI k)), (5, .int (zI i)), (0, .ref b), (1, .ref (ad 0)), (2, .ref (ad 398)), (3, .ref (ad 408)), (4, .ref (ad 409))] (by decide) rfl dL_law_726 (fun ls hl => ?_)
  refine z_aload_n C0 hl 5 rfl dL_law_728 ?_
  refine z_invVi (As := []) (rest := []) C0 Wd (ct_X12_thrown l g ad M2 F2) kv_X12_thrown zN398 (zE_9 zK398) rfl zk_1670 rfl hl.1 rfl (Nat.le_of_ble_eq_true rfl) ⟨by omega, by omega⟩ ⟨by omega, by omega⟩ dL_law_729 (fun r3 M3 F3 H locs hr3 hp3 Wd => ?_)
  obtain ⟨rfl, rfl, rfl⟩ := hp3
  refine z_iload C0 hl 1 rfl dL_law_732 ?_
  refine z_icmp_eq C0 (tgt := 739) hr3 hk dL_law_734 (by decide) (fun _ => ?_) (fun c9 => absurd e8 c9)
  refine z_iload C0 hl 1 rfl dL_law_739 ?_
  refine z_if_ne C0 (tgt := 777) hk dL_law_741 (by decide) (fun k0 => ?_) (fun k0 => ?_)
  · skip
    refine z_goto C0 (tgt := 2902) dL_law_777 (by decide) ?_
    exact kk M2 F2 H locs ls _ _ (zCR_up hcr (by omega) (by omega)) Wd (lv_sub hl [2, 3, 4, 5, 6, 7] rfl) (by omega) (by omega)
  · skip
    obtain ⟨hz, e9⟩ := e9 k0
    refine z_aload C0 hl 7 rfl dL_law_744 ?_
    refine z_iconst C0 dL_law_746 ?_
    refine z_dald C0 Wd zN409 zK409 zL409 (by decide) (by decide) (by decide) e9 dL_law_747 ?_
    refine z_fload C0 hl 0 rfl dL_law_748 ?_
    refine z_f2d C0 (zf_ok64 hz) dL_law_750 ?_
    refine z_dcmp C0 (zf_cmpv64 hz) dL_law_751 ?_
    refine z_if_eq C0 (tgt := 777) (zR_mk (by decide) (by decide)) dL_law_752 (by decide) (fun _ => ?_) (fun h9 => absurd rfl h9)
    refine z_goto C0 (tgt := 2902) dL_law_777 (by decide) ?_
    exact kk M2 F2 H locs ls _ _ (zCR_up hcr (by omega) (by omega)) Wd (lv_sub hl [2, 3, 4, 5, 6, 7] rfl) (by omega) (by omega)
set_option maxHeartbeats 4000000 in
set_option maxRecDepth 100000 in
theorem cs_9 {g : zG} {ad : Int → Nat} {p : Program} {l : Launch} {e : Env} {R : Room} {s : State} {m : MethodId} {below : List Frame} {meth : Method} {c : Code} {Q : State → Prop} {b L : Nat} {xs : Nat → Int32} {H : Heap} {locs : List Loc} {cells slots : Nat} {ls : Array Slot} {M F : zMem} {t d i : Int} (C0 : zC g (fun q => s.heap.size ≤ q) p s m #[.ref b] c cL_law 9 "DrumWarrenLaw") (hX : va_X b L xs s s.heap) (hbl : b < s.heap.size) (hL : L ≤ 2048) (hst : l.stackTraces = false) (hR : 100 ≤ R.frames ∧ 10000 ≤ R.locals) (hf : cells + 3 ≤ R.cells ∧ slots + 18 ≤ R.slots) (Wd : zW g (fun q => s.heap.size ≤ q) s.heap 410 ad M F H locs) (hl : lv_has ls 9 [(5, .int (zI i)), (0, .ref b), (1, .ref (ad 0)), (2, .ref (ad 398)), (3, .ref (ad 408)), (4, .ref (ad 409))]) (h : zCR t d M F) (ht : t ≤ 50000000) (hd : d ≤ 9000) (i0 : 0 ≤ i) (i4 : i + 4 ≤ (L : Int)) (kk : ∀ (M' F' : zMem) (H1 : Heap) (locs1 : List Loc) (ls1 : Array Slot) (c1 s1 : Nat), zCR (t + 7000) (d + 9) M' F' → zW g (fun q => s.heap.size ≤ q) s.heap 410 ad M' F' H1 locs1 → lv_has ls1 9 [(5, .int (zI i)), (0, .ref b), (1, .ref (ad 0)), (2, .ref (ad 398)), (3, .ref (ad 408)), (4, .ref (ad 409))] → c1 ≤ cells + 3 → s1 ≤ slots + 18 → W p l e R s m #[.ref b] below meth c H1 locs1 c1 s1 Q (F0 m 2902 ls1 [])) : W p l e R s m #[.ref b] below meth c H locs cells slots Q (F0 m 780 ls []) := by
  refine z_aload_n C0 hl 2 rfl dL_law_780 ?_
  refine z_aload_n C0 hl 1 rfl dL_law_781 ?_
  refine z_iload C0 hl 0 rfl dL_law_782 ?_
  refine z_iconst C0 dL_law_784 ?_
  refine z_iadd C0 dL_law_785 ?_
  refine z_sld C0 Wd hX hbl (Nat.not_le.mpr hbl) (by omega) (by omega) hL dL_law_786 ?_
  refine z_aload_n C0 hl 1 rfl dL_law_787 ?_
  refine z_iload C0 hl 0 rfl dL_law_788 ?_
  refine z_iconst C0 dL_law_790 ?_
  refine z_iadd C0 dL_law_791 ?_
  refine z_sld C0 Wd hX hbl (Nat.not_le.mpr hbl) (by omega) (by omega) hL dL_law_792 ?_
  refine z_aload_n C0 hl 4 rfl dL_law_793 ?_
  obtain ⟨post, hh1, hh2⟩ := lw_loudnessBits l g ad h ht hd Wd.2 (sx xs (i + 1)) (sx_R _ _) (sx xs (i + 2)) (sx_R _ _)
  refine z_invSH (As := [.ref (ad 0), .int (zI (sx xs (i + 1))), .int (zI (sx xs (i + 2))), .ref (ad 408)]) (rest := []) C0 Wd hst hh1 hs_loudnessBits zk_792 rfl hl.1 rfl (Nat.le_of_ble_eq_true rfl) ⟨by omega, by omega⟩ ⟨by omega, by omega⟩ dL_law_794 (fun k M1 F1 H locs hk hp Wd => ?_)
  refine z_istore C0 hl [(6, .int (zI k)), (5, .int (zI i)), (0, .ref b), (1, .ref (ad 0)), (2, .ref (ad 398)), (3, .ref (ad 408)), (4, .ref (ad 409))] (by decide) rfl dL_law_797 (fun ls hl => ?_)
  refine z_aload_n C0 hl 4 rfl dL_law_799 ?_
  refine z_aload_n C0 hl 2 rfl dL_law_800 ?_
  refine z_iload C0 hl 1 rfl dL_law_801 ?_
  refine z_iconst C0 dL_law_803 ?_
  refine z_iadd C0 dL_law_804 ?_
  refine z_sld C0 Wd hX hbl (Nat.not_le.mpr hbl) (by omega) (by omega) hL dL_law_805 ?_
  refine z_aload_n C0 hl 2 rfl dL_law_806 ?_
  refine z_iload C0 hl 1 rfl dL_law_807 ?_
  refine z_iconst C0 dL_law_809 ?_
  refine z_iadd C0 dL_law_810 ?_
  refine z_sld C0 Wd hX hbl (Nat.not_le.mpr hbl) (by omega) (by omega) hL dL_law_811 ?_
  obtain ⟨pm, hm1, hm2⟩ := hh2 k M1 F1 hp Wd.2
  refine z_invAi (As := [.int (zI (sx xs (i + 1))), .int (zI (sx xs (i + 2)))]) (rest := []) C0 Wd hm1 hm2 kv_X12_loudnessBits zN398 (zE_9 zK398) rfl zk_1762 rfl hl.1 rfl (Nat.le_of_ble_eq_true rfl) ⟨by omega, by omega⟩ ⟨by omega, by omega⟩ dL_law_812 (fun bb M2 F2 H locs hbz e8 e9 hcr Wd => ?_)
  refine z_istore C0 hl [(7, .int (zI bb)), (6, .int (zI k)), (5, .int (zI i)), (0, .ref b), (1, .ref (ad 0)), (2, .ref (ad 398)), (3, .ref (ad 408)), (4, .ref (ad 409))] (by decide) rfl dL_law_815 (fun ls hl => ?_)
  refine z_aload_n C0 hl 5 rfl dL_law_817 ?_
  refine z_invVi (As := []) (rest := []) C0 Wd (ct_X12_thrown l g ad M2 F2) kv_X12_thrown zN398 (zE_9 zK398) rfl zk_1670 rfl hl.1 rfl (Nat.le_of_ble_eq_true rfl) ⟨by omega, by omega⟩ ⟨by omega, by omega⟩ dL_law_818 (fun r3 M3 F3 H locs hr3 hp3 Wd => ?_)
  obtain ⟨rfl, rfl, rfl⟩ := hp3
  refine z_iload C0 hl 1 rfl dL_law_821 ?_
  refine z_icmp_eq C0 (tgt := 828) hr3 hk dL_law_823 (by decide) (fun _ => ?_) (fun c9 => absurd e8 c9)
  refine z_iload C0 hl 1 rfl dL_law_828 ?_
  refine z_if_ne C0 (tgt := 845) hk dL_law_830 (by decide) (fun k0 => ?_) (fun k0 => ?_)
  · skip
    refine z_goto C0 (tgt := 2902) dL_law_845 (by decide) ?_
    exact kk M2 F2 H locs ls _ _ (zCR_up hcr (by omega) (by omega)) Wd (lv_sub hl [2, 3, 4, 5, 6, 7] rfl) (by omega) (by omega)
  · skip
    have e9 := e9 k0
    refine z_aload_n C0 hl 6 rfl dL_law_833 ?_
    refine z_iconst C0 dL_law_834 ?_
    refine z_lald C0 Wd zN408 zK408 zL408 (by decide) (by decide) (by decide) dL_law_835 ?_
    refine z_iload C0 hl 0 rfl dL_law_836 ?_
    refine z_i2l C0 hbz dL_law_838 ?_
    refine z_lcmpE C0 e9 dL_law_839 ?_
    refine z_if_eq C0 (tgt := 845) (zR_mk (by decide) (by decide)) dL_law_840 (by decide) (fun _ => ?_) (fun h9 => absurd rfl h9)
    refine z_goto C0 (tgt := 2902) dL_law_845 (by decide) ?_
    exact kk M2 F2 H locs ls _ _ (zCR_up hcr (by omega) (by omega)) Wd (lv_sub hl [2, 3, 4, 5, 6, 7] rfl) (by omega) (by omega)
set_option maxHeartbeats 4000000 in
set_option maxRecDepth 100000 in
theorem cs_10 {g : zG} {ad : Int → Nat} {p : Program} {l : Launch} {e : Env} {R : Room} {s : State} {m : MethodId} {below : List Frame} {meth : Method} {c : Code} {Q : State → Prop} {b L : Nat} {xs : Nat → Int32} {H : Heap} {locs : List Loc} {cells slots : Nat} {ls : Array Slot} {M F : zMem} {t d i : Int} (C0 : zC g (fun q => s.heap.size ≤ q) p s m #[.ref b] c cL_law 9 "DrumWarrenLaw") (hX : va_X b L xs s s.heap) (hbl : b < s.heap.size) (hL : L ≤ 2048) (hst : l.stackTraces = false) (hR : 100 ≤ R.frames ∧ 10000 ≤ R.locals) (hf : cells + 3 ≤ R.cells ∧ slots + 18 ≤ R.slots) (Wd : zW g (fun q => s.heap.size ≤ q) s.heap 410 ad M F H locs) (hl : lv_has ls 9 [(5, .int (zI i)), (0, .ref b), (1, .ref (ad 0)), (2, .ref (ad 398)), (3, .ref (ad 408)), (4, .ref (ad 409))]) (h : zCR t d M F) (ht : t ≤ 50000000) (hd : d ≤ 9000) (i0 : 0 ≤ i) (i4 : i + 4 ≤ (L : Int)) (kk : ∀ (M' F' : zMem) (H1 : Heap) (locs1 : List Loc) (ls1 : Array Slot) (c1 s1 : Nat), zCR (t + 7000) (d + 9) M' F' → zW g (fun q => s.heap.size ≤ q) s.heap 410 ad M' F' H1 locs1 → lv_has ls1 9 [(5, .int (zI i)), (0, .ref b), (1, .ref (ad 0)), (2, .ref (ad 398)), (3, .ref (ad 408)), (4, .ref (ad 409))] → c1 ≤ cells + 3 → s1 ≤ slots + 18 → W p l e R s m #[.ref b] below meth c H1 locs1 c1 s1 Q (F0 m 2902 ls1 [])) : W p l e R s m #[.ref b] below meth c H locs cells slots Q (F0 m 848 ls []) := by
  refine z_aload_n C0 hl 2 rfl dL_law_848 ?_
  refine z_aload_n C0 hl 1 rfl dL_law_849 ?_
  refine z_iload C0 hl 0 rfl dL_law_850 ?_
  refine z_iconst C0 dL_law_852 ?_
  refine z_iadd C0 dL_law_853 ?_
  refine z_sld C0 Wd hX hbl (Nat.not_le.mpr hbl) (by omega) (by omega) hL dL_law_854 ?_
  refine z_aload_n C0 hl 4 rfl dL_law_855 ?_
  obtain ⟨post, hh1, hh2⟩ := lw_addHare l g ad h ht hd Wd.2 (sx xs (i + 1)) (sx_R _ _)
  refine z_invSH (As := [.ref (ad 0), .int (zI (sx xs (i + 1))), .ref (ad 408)]) (rest := []) C0 Wd hst hh1 hs_addHare zk_803 rfl hl.1 rfl (Nat.le_of_ble_eq_true rfl) ⟨by omega, by omega⟩ ⟨by omega, by omega⟩ dL_law_856 (fun k M1 F1 H locs hk hp Wd => ?_)
  refine z_istore C0 hl [(6, .int (zI k)), (5, .int (zI i)), (0, .ref b), (1, .ref (ad 0)), (2, .ref (ad 398)), (3, .ref (ad 408)), (4, .ref (ad 409))] (by decide) rfl dL_law_859 (fun ls hl => ?_)
  refine z_aload_n C0 hl 4 rfl dL_law_861 ?_
  refine z_aload_n C0 hl 2 rfl dL_law_862 ?_
  refine z_iload C0 hl 1 rfl dL_law_863 ?_
  refine z_iconst C0 dL_law_865 ?_
  refine z_iadd C0 dL_law_866 ?_
  refine z_sld C0 Wd hX hbl (Nat.not_le.mpr hbl) (by omega) (by omega) hL dL_law_867 ?_
  obtain ⟨pm, hm1, hm2⟩ := hh2 k M1 F1 hp Wd.2
  refine z_invAi (As := [.int (zI (sx xs (i + 1)))]) (rest := []) C0 Wd hm1 hm2 kv_X12_addHare zN398 (zE_9 zK398) rfl zk_1777 rfl hl.1 rfl (Nat.le_of_ble_eq_true rfl) ⟨by omega, by omega⟩ ⟨by omega, by omega⟩ dL_law_868 (fun bb M2 F2 H locs hbz e8 e9 hcr Wd => ?_)
  refine z_istore C0 hl [(7, .int (zI bb)), (6, .int (zI k)), (5, .int (zI i)), (0, .ref b), (1, .ref (ad 0)), (2, .ref (ad 398)), (3, .ref (ad 408)), (4, .ref (ad 409))] (by decide) rfl dL_law_871 (fun ls hl => ?_)
  refine z_aload_n C0 hl 5 rfl dL_law_873 ?_
  refine z_invVi (As := []) (rest := []) C0 Wd (ct_X12_thrown l g ad M2 F2) kv_X12_thrown zN398 (zE_9 zK398) rfl zk_1670 rfl hl.1 rfl (Nat.le_of_ble_eq_true rfl) ⟨by omega, by omega⟩ ⟨by omega, by omega⟩ dL_law_874 (fun r3 M3 F3 H locs hr3 hp3 Wd => ?_)
  obtain ⟨rfl, rfl, rfl⟩ := hp3
  refine z_iload C0 hl 1 rfl dL_law_877 ?_
  refine z_icmp_eq C0 (tgt := 884) hr3 hk dL_law_879 (by decide) (fun _ => ?_) (fun c9 => absurd e8 c9)
  refine z_iload C0 hl 1 rfl dL_law_884 ?_
  refine z_if_ne C0 (tgt := 901) hk dL_law_886 (by decide) (fun k0 => ?_) (fun k0 => ?_)
  · skip
    refine z_goto C0 (tgt := 2902) dL_law_901 (by decide) ?_
    exact kk M2 F2 H locs ls _ _ (zCR_up hcr (by omega) (by omega)) Wd (lv_sub hl [2, 3, 4, 5, 6, 7] rfl) (by omega) (by omega)
  · skip
    have e9 := e9 k0
    refine z_aload_n C0 hl 6 rfl dL_law_889 ?_
    refine z_iconst C0 dL_law_890 ?_
    refine z_lald C0 Wd zN408 zK408 zL408 (by decide) (by decide) (by decide) dL_law_891 ?_
    refine z_iload C0 hl 0 rfl dL_law_892 ?_
    refine z_i2l C0 hbz dL_law_894 ?_
    refine z_lcmpE C0 e9 dL_law_895 ?_
    refine z_if_eq C0 (tgt := 901) (zR_mk (by decide) (by decide)) dL_law_896 (by decide) (fun _ => ?_) (fun h9 => absurd rfl h9)
    refine z_goto C0 (tgt := 2902) dL_law_901 (by decide) ?_
    exact kk M2 F2 H locs ls _ _ (zCR_up hcr (by omega) (by omega)) Wd (lv_sub hl [2, 3, 4, 5, 6, 7] rfl) (by omega) (by omega)
set_option maxHeartbeats 4000000 in
set_option maxRecDepth 100000 in
theorem cs_11 {g : zG} {ad : Int → Nat} {p : Program} {l : Launch} {e : Env} {R : Room} {s : State} {m : MethodId} {below : List Frame} {meth : Method} {c : Code} {Q : State → Prop} {b L : Nat} {xs : Nat → Int32} {H : Heap} {locs : List Loc} {cells slots : Nat} {ls : Array Slot} {M F : zMem} {t d i : Int} (C0 : zC g (fun q => s.heap.size ≤ q) p s m #[.ref b] c cL_law 9 "DrumWarrenLaw") (hX : va_X b L xs s s.heap) (hbl : b < s.heap.size) (hL : L ≤ 2048) (hst : l.stackTraces = false) (hR : 100 ≤ R.frames ∧ 10000 ≤ R.locals) (hf : cells + 3 ≤ R.cells ∧ slots + 18 ≤ R.slots) (Wd : zW g (fun q => s.heap.size ≤ q) s.heap 410 ad M F H locs) (hl : lv_has ls 9 [(5, .int (zI i)), (0, .ref b), (1, .ref (ad 0)), (2, .ref (ad 398)), (3, .ref (ad 408)), (4, .ref (ad 409))]) (h : zCR t d M F) (ht : t ≤ 50000000) (hd : d ≤ 9000) (i0 : 0 ≤ i) (i4 : i + 4 ≤ (L : Int)) (kk : ∀ (M' F' : zMem) (H1 : Heap) (locs1 : List Loc) (ls1 : Array Slot) (c1 s1 : Nat), zCR (t + 7000) (d + 9) M' F' → zW g (fun q => s.heap.size ≤ q) s.heap 410 ad M' F' H1 locs1 → lv_has ls1 9 [(5, .int (zI i)), (0, .ref b), (1, .ref (ad 0)), (2, .ref (ad 398)), (3, .ref (ad 408)), (4, .ref (ad 409))] → c1 ≤ cells + 3 → s1 ≤ slots + 18 → W p l e R s m #[.ref b] below meth c H1 locs1 c1 s1 Q (F0 m 2902 ls1 [])) : W p l e R s m #[.ref b] below meth c H locs cells slots Q (F0 m 904 ls []) := by
  refine z_aload_n C0 hl 2 rfl dL_law_904 ?_
  refine z_aload_n C0 hl 1 rfl dL_law_905 ?_
  refine z_iload C0 hl 0 rfl dL_law_906 ?_
  refine z_iconst C0 dL_law_908 ?_
  refine z_iadd C0 dL_law_909 ?_
  refine z_sld C0 Wd hX hbl (Nat.not_le.mpr hbl) (by omega) (by omega) hL dL_law_910 ?_
  refine z_aload_n C0 hl 1 rfl dL_law_911 ?_
  refine z_iload C0 hl 0 rfl dL_law_912 ?_
  refine z_iconst C0 dL_law_914 ?_
  refine z_iadd C0 dL_law_915 ?_
  refine z_sld C0 Wd hX hbl (Nat.not_le.mpr hbl) (by omega) (by omega) hL dL_law_916 ?_
  refine z_aload_n C0 hl 4 rfl dL_law_917 ?_
  obtain ⟨post, hh1, hh2⟩ := lw_move l g ad h ht hd Wd.2 (sx xs (i + 1)) (sx_R _ _) (sx xs (i + 2)) (sx_R _ _)
  refine z_invSH (As := [.ref (ad 0), .int (zI (sx xs (i + 1))), .int (zI (sx xs (i + 2))), .ref (ad 408)]) (rest := []) C0 Wd hst hh1 hs_move zk_818 rfl hl.1 rfl (Nat.le_of_ble_eq_true rfl) ⟨by omega, by omega⟩ ⟨by omega, by omega⟩ dL_law_918 (fun k M1 F1 H locs hk hp Wd => ?_)
  refine z_istore C0 hl [(6, .int (zI k)), (5, .int (zI i)), (0, .ref b), (1, .ref (ad 0)), (2, .ref (ad 398)), (3, .ref (ad 408)), (4, .ref (ad 409))] (by decide) rfl dL_law_921 (fun ls hl => ?_)
  refine z_aload_n C0 hl 4 rfl dL_law_923 ?_
  refine z_aload_n C0 hl 2 rfl dL_law_924 ?_
  refine z_iload C0 hl 1 rfl dL_law_925 ?_
  refine z_iconst C0 dL_law_927 ?_
  refine z_iadd C0 dL_law_928 ?_
  refine z_sld C0 Wd hX hbl (Nat.not_le.mpr hbl) (by omega) (by omega) hL dL_law_929 ?_
  refine z_aload_n C0 hl 2 rfl dL_law_930 ?_
  refine z_iload C0 hl 1 rfl dL_law_931 ?_
  refine z_iconst C0 dL_law_933 ?_
  refine z_iadd C0 dL_law_934 ?_
  refine z_sld C0 Wd hX hbl (Nat.not_le.mpr hbl) (by omega) (by omega) hL dL_law_935 ?_
  obtain ⟨pm, hm1, hm2⟩ := hh2 k M1 F1 hp Wd.2
  refine z_invAi (As := [.int (zI (sx xs (i + 1))), .int (zI (sx xs (i + 2)))]) (rest := []) C0 Wd hm1 hm2 kv_X12_move zN398 (zE_9 zK398) rfl zk_1785 rfl hl.1 rfl (Nat.le_of_ble_eq_true rfl) ⟨by omega, by omega⟩ ⟨by omega, by omega⟩ dL_law_936 (fun bb M2 F2 H locs hbz e8 e9 hcr Wd => ?_)
  refine z_istore C0 hl [(7, .int (zI bb)), (6, .int (zI k)), (5, .int (zI i)), (0, .ref b), (1, .ref (ad 0)), (2, .ref (ad 398)), (3, .ref (ad 408)), (4, .ref (ad 409))] (by decide) rfl dL_law_939 (fun ls hl => ?_)
  refine z_aload_n C0 hl 5 rfl dL_law_941 ?_
  refine z_invVi (As := []) (rest := []) C0 Wd (ct_X12_thrown l g ad M2 F2) kv_X12_thrown zN398 (zE_9 zK398) rfl zk_1670 rfl hl.1 rfl (Nat.le_of_ble_eq_true rfl) ⟨by omega, by omega⟩ ⟨by omega, by omega⟩ dL_law_942 (fun r3 M3 F3 H locs hr3 hp3 Wd => ?_)
  obtain ⟨rfl, rfl, rfl⟩ := hp3
  refine z_iload C0 hl 1 rfl dL_law_945 ?_
  refine z_icmp_eq C0 (tgt := 952) hr3 hk dL_law_947 (by decide) (fun _ => ?_) (fun c9 => absurd e8 c9)
  refine z_iload C0 hl 1 rfl dL_law_952 ?_
  refine z_if_ne C0 (tgt := 969) hk dL_law_954 (by decide) (fun k0 => ?_) (fun k0 => ?_)
  · skip
    refine z_goto C0 (tgt := 2902) dL_law_969 (by decide) ?_
    exact kk M2 F2 H locs ls _ _ (zCR_up hcr (by omega) (by omega)) Wd (lv_sub hl [2, 3, 4, 5, 6, 7] rfl) (by omega) (by omega)
  · skip
    have e9 := e9 k0
    refine z_aload_n C0 hl 6 rfl dL_law_957 ?_
    refine z_iconst C0 dL_law_958 ?_
    refine z_lald C0 Wd zN408 zK408 zL408 (by decide) (by decide) (by decide) dL_law_959 ?_
    refine z_iload C0 hl 0 rfl dL_law_960 ?_
    refine z_i2l C0 hbz dL_law_962 ?_
    refine z_lcmpE C0 e9 dL_law_963 ?_
    refine z_if_eq C0 (tgt := 969) (zR_mk (by decide) (by decide)) dL_law_964 (by decide) (fun _ => ?_) (fun h9 => absurd rfl h9)
    refine z_goto C0 (tgt := 2902) dL_law_969 (by decide) ?_
    exact kk M2 F2 H locs ls _ _ (zCR_up hcr (by omega) (by omega)) Wd (lv_sub hl [2, 3, 4, 5, 6, 7] rfl) (by omega) (by omega)
set_option maxHeartbeats 4000000 in
set_option maxRecDepth 100000 in
theorem cs_12 {g : zG} {ad : Int → Nat} {p : Program} {l : Launch} {e : Env} {R : Room} {s : State} {m : MethodId} {below : List Frame} {meth : Method} {c : Code} {Q : State → Prop} {b L : Nat} {xs : Nat → Int32} {H : Heap} {locs : List Loc} {cells slots : Nat} {ls : Array Slot} {M F : zMem} {t d i : Int} (C0 : zC g (fun q => s.heap.size ≤ q) p s m #[.ref b] c cL_law 9 "DrumWarrenLaw") (hX : va_X b L xs s s.heap) (hbl : b < s.heap.size) (hL : L ≤ 2048) (hst : l.stackTraces = false) (hR : 100 ≤ R.frames ∧ 10000 ≤ R.locals) (hf : cells + 3 ≤ R.cells ∧ slots + 18 ≤ R.slots) (Wd : zW g (fun q => s.heap.size ≤ q) s.heap 410 ad M F H locs) (hl : lv_has ls 9 [(5, .int (zI i)), (0, .ref b), (1, .ref (ad 0)), (2, .ref (ad 398)), (3, .ref (ad 408)), (4, .ref (ad 409))]) (h : zCR t d M F) (ht : t ≤ 50000000) (hd : d ≤ 9000) (i0 : 0 ≤ i) (i4 : i + 4 ≤ (L : Int)) (kk : ∀ (M' F' : zMem) (H1 : Heap) (locs1 : List Loc) (ls1 : Array Slot) (c1 s1 : Nat), zCR (t + 7000) (d + 9) M' F' → zW g (fun q => s.heap.size ≤ q) s.heap 410 ad M' F' H1 locs1 → lv_has ls1 9 [(5, .int (zI i)), (0, .ref b), (1, .ref (ad 0)), (2, .ref (ad 398)), (3, .ref (ad 408)), (4, .ref (ad 409))] → c1 ≤ cells + 3 → s1 ≤ slots + 18 → W p l e R s m #[.ref b] below meth c H1 locs1 c1 s1 Q (F0 m 2902 ls1 [])) : W p l e R s m #[.ref b] below meth c H locs cells slots Q (F0 m 972 ls []) := by
  refine z_aload_n C0 hl 2 rfl dL_law_972 ?_
  refine z_aload_n C0 hl 1 rfl dL_law_973 ?_
  refine z_iload C0 hl 0 rfl dL_law_974 ?_
  refine z_iconst C0 dL_law_976 ?_
  refine z_iadd C0 dL_law_977 ?_
  refine z_sld C0 Wd hX hbl (Nat.not_le.mpr hbl) (by omega) (by omega) hL dL_law_978 ?_
  refine z_aload_n C0 hl 1 rfl dL_law_979 ?_
  refine z_iload C0 hl 0 rfl dL_law_980 ?_
  refine z_iconst C0 dL_law_982 ?_
  refine z_iadd C0 dL_law_983 ?_
  refine z_sld C0 Wd hX hbl (Nat.not_le.mpr hbl) (by omega) (by omega) hL dL_law_984 ?_
  refine z_if_eq C0 (tgt := 992) (sx_R _ _) dL_law_985 (by decide) (fun hz => ?_) (fun hz => ?_)
  · skip
    refine z_iconst C0 dL_law_992 ?_
    refine z_aload_n C0 hl 4 rfl dL_law_993 ?_
    obtain ⟨post, hh1, hh2⟩ := lw_setListening l g ad h ht hd Wd.2 (sx xs (i + 1)) (sx_R _ _) False
    refine z_invSH (As := [.ref (ad 0), .int (zI (sx xs (i + 1))), .int (zI 0), .ref (ad 408)]) (rest := []) C0 Wd hst hh1 hs_setListening zk_834 rfl hl.1 rfl (Nat.le_of_ble_eq_true rfl) ⟨by omega, by omega⟩ ⟨by omega, by omega⟩ dL_law_994 (fun k M1 F1 H locs hk hp Wd => ?_)
    refine z_istore C0 hl [(6, .int (zI k)), (5, .int (zI i)), (0, .ref b), (1, .ref (ad 0)), (2, .ref (ad 398)), (3, .ref (ad 408)), (4, .ref (ad 409))] (by decide) rfl dL_law_997 (fun ls hl => ?_)
    refine z_aload_n C0 hl 4 rfl dL_law_999 ?_
    refine z_aload_n C0 hl 2 rfl dL_law_1000 ?_
    refine z_iload C0 hl 1 rfl dL_law_1001 ?_
    refine z_iconst C0 dL_law_1003 ?_
    refine z_iadd C0 dL_law_1004 ?_
    refine z_sld C0 Wd hX hbl (Nat.not_le.mpr hbl) (by omega) (by omega) hL dL_law_1005 ?_
    refine z_aload_n C0 hl 2 rfl dL_law_1006 ?_
    refine z_iload C0 hl 1 rfl dL_law_1007 ?_
    refine z_iconst C0 dL_law_1009 ?_
    refine z_iadd C0 dL_law_1010 ?_
    refine z_sld C0 Wd hX hbl (Nat.not_le.mpr hbl) (by omega) (by omega) hL dL_law_1011 ?_
    refine z_if_eq C0 (tgt := 1019) (sx_R _ _) dL_law_1012 (by decide) (fun _ => ?_) (fun h9 => absurd hz h9)
    refine z_iconst C0 dL_law_1019 ?_
    obtain ⟨pm, hm1, hm2⟩ := hh2 k M1 F1 hp Wd.2
    refine z_invAb (As := [.int (zI (sx xs (i + 1))), .int (zI 0)]) (rest := []) C0 Wd hm1 hm2 kv_X12_setListening zN398 (zE_9 zK398) rfl zk_1809 rfl hl.1 rfl (Nat.le_of_ble_eq_true rfl) ⟨by omega, by omega⟩ ⟨by omega, by omega⟩ dL_law_1020 (fun bb M2 F2 H locs h01 e8 e9 hcr Wd => ?_)
    refine z_istore C0 hl [(7, .int (zI bb)), (6, .int (zI k)), (5, .int (zI i)), (0, .ref b), (1, .ref (ad 0)), (2, .ref (ad 398)), (3, .ref (ad 408)), (4, .ref (ad 409))] (by decide) rfl dL_law_1023 (fun ls hl => ?_)
    refine z_aload_n C0 hl 5 rfl dL_law_1025 ?_
    refine z_invVi (As := []) (rest := []) C0 Wd (ct_X12_thrown l g ad M2 F2) kv_X12_thrown zN398 (zE_9 zK398) rfl zk_1670 rfl hl.1 rfl (Nat.le_of_ble_eq_true rfl) ⟨by omega, by omega⟩ ⟨by omega, by omega⟩ dL_law_1026 (fun r3 M3 F3 H locs hr3 hp3 Wd => ?_)
    obtain ⟨rfl, rfl, rfl⟩ := hp3
    refine z_iload C0 hl 1 rfl dL_law_1029 ?_
    refine z_icmp_eq C0 (tgt := 1036) hr3 hk dL_law_1031 (by decide) (fun _ => ?_) (fun c9 => absurd e8 c9)
    refine z_iload C0 hl 1 rfl dL_law_1036 ?_
    refine z_if_ne C0 (tgt := 1060) hk dL_law_1038 (by decide) (fun k0 => ?_) (fun k0 => ?_)
    · skip
      refine z_goto C0 (tgt := 2902) dL_law_1060 (by decide) ?_
      exact kk M2 F2 H locs ls _ _ (zCR_up hcr (by omega) (by omega)) Wd (lv_sub hl [2, 3, 4, 5, 6, 7] rfl) (by omega) (by omega)
    · skip
      have e9 := e9 k0
      refine z_aload_n C0 hl 6 rfl dL_law_1041 ?_
      refine z_iconst C0 dL_law_1042 ?_
      refine z_lald C0 Wd zN408 zK408 zL408 (by decide) (by decide) (by decide) dL_law_1043 ?_
      refine z_iload C0 hl 0 rfl dL_law_1044 ?_
      rcases h01 with rfl | rfl
      · skip
        refine z_if_eq C0 (tgt := 1053) (zR_mk (by decide) (by decide)) dL_law_1046 (by decide) (fun _ => ?_) (fun h9 => absurd rfl h9)
        refine z_lconst C0 0 dL_law_1053 rfl ?_
        refine z_lcmpE C0 e9 dL_law_1054 ?_
        refine z_if_eq C0 (tgt := 1060) (zR_mk (by decide) (by decide)) dL_law_1055 (by decide) (fun _ => ?_) (fun h9 => absurd rfl h9)
        refine z_goto C0 (tgt := 2902) dL_law_1060 (by decide) ?_
        exact kk M2 F2 H locs ls _ _ (zCR_up hcr (by omega) (by omega)) Wd (lv_sub hl [2, 3, 4, 5, 6, 7] rfl) (by omega) (by omega)
      · skip
        refine z_if_eq C0 (tgt := 1053) (zR_mk (by decide) (by decide)) dL_law_1046 (by decide) (fun h9 => absurd h9 (by decide)) (fun _ => ?_)
        refine z_lconst C0 1 dL_law_1049 rfl ?_
        refine z_goto C0 (tgt := 1054) dL_law_1050 (by decide) ?_
        refine z_lcmpE C0 e9 dL_law_1054 ?_
        refine z_if_eq C0 (tgt := 1060) (zR_mk (by decide) (by decide)) dL_law_1055 (by decide) (fun _ => ?_) (fun h9 => absurd rfl h9)
        refine z_goto C0 (tgt := 2902) dL_law_1060 (by decide) ?_
        exact kk M2 F2 H locs ls _ _ (zCR_up hcr (by omega) (by omega)) Wd (lv_sub hl [2, 3, 4, 5, 6, 7] rfl) (by omega) (by omega)
  · skip
    refine z_iconst C0 dL_law_988 ?_
    refine z_goto C0 (tgt := 993) dL_law_989 (by decide) ?_
    refine z_aload_n C0 hl 4 rfl dL_law_993 ?_
    obtain ⟨post, hh1, hh2⟩ := lw_setListening l g ad h ht hd Wd.2 (sx xs (i + 1)) (sx_R _ _) True
    refine z_invSH (As := [.ref (ad 0), .int (zI (sx xs (i + 1))), .int (zI 1), .ref (ad 408)]) (rest := []) C0 Wd hst hh1 hs_setListening zk_834 rfl hl.1 rfl (Nat.le_of_ble_eq_true rfl) ⟨by omega, by omega⟩ ⟨by omega, by omega⟩ dL_law_994 (fun k M1 F1 H locs hk hp Wd => ?_)
    refine z_istore C0 hl [(6, .int (zI k)), (5, .int (zI i)), (0, .ref b), (1, .ref (ad 0)), (2, .ref (ad 398)), (3, .ref (ad 408)), (4, .ref (ad 409))] (by decide) rfl dL_law_997 (fun ls hl => ?_)
    refine z_aload_n C0 hl 4 rfl dL_law_999 ?_
    refine z_aload_n C0 hl 2 rfl dL_law_1000 ?_
    refine z_iload C0 hl 1 rfl dL_law_1001 ?_
    refine z_iconst C0 dL_law_1003 ?_
    refine z_iadd C0 dL_law_1004 ?_
    refine z_sld C0 Wd hX hbl (Nat.not_le.mpr hbl) (by omega) (by omega) hL dL_law_1005 ?_
    refine z_aload_n C0 hl 2 rfl dL_law_1006 ?_
    refine z_iload C0 hl 1 rfl dL_law_1007 ?_
    refine z_iconst C0 dL_law_1009 ?_
    refine z_iadd C0 dL_law_1010 ?_
    refine z_sld C0 Wd hX hbl (Nat.not_le.mpr hbl) (by omega) (by omega) hL dL_law_1011 ?_
    refine z_if_eq C0 (tgt := 1019) (sx_R _ _) dL_law_1012 (by decide) (fun h9 => absurd h9 hz) (fun _ => ?_)
    refine z_iconst C0 dL_law_1015 ?_
    refine z_goto C0 (tgt := 1020) dL_law_1016 (by decide) ?_
    obtain ⟨pm, hm1, hm2⟩ := hh2 k M1 F1 hp Wd.2
    refine z_invAb (As := [.int (zI (sx xs (i + 1))), .int (zI 1)]) (rest := []) C0 Wd hm1 hm2 kv_X12_setListening zN398 (zE_9 zK398) rfl zk_1809 rfl hl.1 rfl (Nat.le_of_ble_eq_true rfl) ⟨by omega, by omega⟩ ⟨by omega, by omega⟩ dL_law_1020 (fun bb M2 F2 H locs h01 e8 e9 hcr Wd => ?_)
    refine z_istore C0 hl [(7, .int (zI bb)), (6, .int (zI k)), (5, .int (zI i)), (0, .ref b), (1, .ref (ad 0)), (2, .ref (ad 398)), (3, .ref (ad 408)), (4, .ref (ad 409))] (by decide) rfl dL_law_1023 (fun ls hl => ?_)
    refine z_aload_n C0 hl 5 rfl dL_law_1025 ?_
    refine z_invVi (As := []) (rest := []) C0 Wd (ct_X12_thrown l g ad M2 F2) kv_X12_thrown zN398 (zE_9 zK398) rfl zk_1670 rfl hl.1 rfl (Nat.le_of_ble_eq_true rfl) ⟨by omega, by omega⟩ ⟨by omega, by omega⟩ dL_law_1026 (fun r3 M3 F3 H locs hr3 hp3 Wd => ?_)
    obtain ⟨rfl, rfl, rfl⟩ := hp3
    refine z_iload C0 hl 1 rfl dL_law_1029 ?_
    refine z_icmp_eq C0 (tgt := 1036) hr3 hk dL_law_1031 (by decide) (fun _ => ?_) (fun c9 => absurd e8 c9)
    refine z_iload C0 hl 1 rfl dL_law_1036 ?_
    refine z_if_ne C0 (tgt := 1060) hk dL_law_1038 (by decide) (fun k0 => ?_) (fun k0 => ?_)
    · skip
      refine z_goto C0 (tgt := 2902) dL_law_1060 (by decide) ?_
      exact kk M2 F2 H locs ls _ _ (zCR_up hcr (by omega) (by omega)) Wd (lv_sub hl [2, 3, 4, 5, 6, 7] rfl) (by omega) (by omega)
    · skip
      have e9 := e9 k0
      refine z_aload_n C0 hl 6 rfl dL_law_1041 ?_
      refine z_iconst C0 dL_law_1042 ?_
      refine z_lald C0 Wd zN408 zK408 zL408 (by decide) (by decide) (by decide) dL_law_1043 ?_
      refine z_iload C0 hl 0 rfl dL_law_1044 ?_
      rcases h01 with rfl | rfl
      · skip
        refine z_if_eq C0 (tgt := 1053) (zR_mk (by decide) (by decide)) dL_law_1046 (by decide) (fun _ => ?_) (fun h9 => absurd rfl h9)
        refine z_lconst C0 0 dL_law_1053 rfl ?_
        refine z_lcmpE C0 e9 dL_law_1054 ?_
        refine z_if_eq C0 (tgt := 1060) (zR_mk (by decide) (by decide)) dL_law_1055 (by decide) (fun _ => ?_) (fun h9 => absurd rfl h9)
        refine z_goto C0 (tgt := 2902) dL_law_1060 (by decide) ?_
        exact kk M2 F2 H locs ls _ _ (zCR_up hcr (by omega) (by omega)) Wd (lv_sub hl [2, 3, 4, 5, 6, 7] rfl) (by omega) (by omega)
      · skip
        refine z_if_eq C0 (tgt := 1053) (zR_mk (by decide) (by decide)) dL_law_1046 (by decide) (fun h9 => absurd h9 (by decide)) (fun _ => ?_)
        refine z_lconst C0 1 dL_law_1049 rfl ?_
        refine z_goto C0 (tgt := 1054) dL_law_1050 (by decide) ?_
        refine z_lcmpE C0 e9 dL_law_1054 ?_
        refine z_if_eq C0 (tgt := 1060) (zR_mk (by decide) (by decide)) dL_law_1055 (by decide) (fun _ => ?_) (fun h9 => absurd rfl h9)
        refine z_goto C0 (tgt := 2902) dL_law_1060 (by decide) ?_
        exact kk M2 F2 H locs ls _ _ (zCR_up hcr (by omega) (by omega)) Wd (lv_sub hl [2, 3, 4, 5, 6, 7] rfl) (by omega) (by omega)
