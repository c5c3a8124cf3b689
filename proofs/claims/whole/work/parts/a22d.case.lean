/-! the law's cases -/
set_option maxHeartbeats 4000000 in
set_option maxRecDepth 100000 in
theorem cs_39 {g : zG} {ad : Int → Nat} {p : Program} {l : Launch} {e : Env} {R : Room} {s : State} {m : MethodId} {below : List Frame} {meth : Method} {c : Code} {Q : State → Prop} {b L : Nat} {xs : Nat → Int32} {H : Heap} {locs : List Loc} {cells slots : Nat} {ls : Array Slot} {M F : zMem} {t d i : Int} (C0 : zC g (fun q => s.heap.size ≤ q) p s m #[.ref b] c cL_law 9 "DrumWarrenLaw") (hX : va_X b L xs s s.heap) (hbl : b < s.heap.size) (hL : L ≤ 2048) (hst : l.stackTraces = false) (hR : 100 ≤ R.frames ∧ 10000 ≤ R.locals) (hf : cells + 3 ≤ R.cells ∧ slots + 18 ≤ R.slots) (Wd : zW g (fun q => s.heap.size ≤ q) s.heap 410 ad M F H locs) (hl : lv_has ls 9 [(5, .int (zI i)), (0, .ref b), (1, .ref (ad 0)), (2, .ref (ad 398)), (3, .ref (ad 408)), (4, .ref (ad 409))]) (h : zCR t d M F) (ht : t ≤ 50000000) (hd : d ≤ 9000) (i0 : 0 ≤ i) (i4 : i + 4 ≤ (L : Int)) (kk : ∀ (M' F' : zMem) (H1 : Heap) (locs1 : List Loc) (ls1 : Array Slot) (c1 s1 : Nat), zCR (t + 7000) (d + 9) M' F' → zW g (fun q => s.heap.size ≤ q) s.heap 410 ad M' F' H1 locs1 → lv_has ls1 9 [(5, .int (zI i)), (0, .ref b), (1, .ref (ad 0)), (2, .ref (ad 398)), (3, .ref (ad 408)), (4, .ref (ad 409))] → c1 ≤ cells + 3 → s1 ≤ slots + 18 → W p l e R s m #[.ref b] below meth c H1 locs1 c1 s1 Q (F0 m 2902 ls1 [])) : W p l e R s m #[.ref b] below meth c H locs cells slots Q (F0 m 2352 ls []) := by
  refine z_aload_n C0 hl 2 rfl dL_law_2352 ?_
  refine z_aload C0 hl 5 rfl dL_law_2353 ?_
  obtain ⟨post, hh1, hh2⟩ := lw_deliveryFraction l g ad h ht hd Wd.2
  refine z_invSH (As := [.ref (ad 0), .ref (ad 409)]) (rest := []) C0 Wd hst hh1 hs_deliveryFraction zk_1146 rfl hl.1 rfl (Nat.le_of_ble_eq_true rfl) ⟨by omega, by omega⟩ ⟨by omega, by omega⟩ dL_law_2355 (fun k M1 F1 H locs hk hp Wd => ?_)
  refine z_istore C0 hl [(6, .int (zI k)), (5, .int (zI i)), (0, .ref b), (1, .ref (ad 0)), (2, .ref (ad 398)), (3, .ref (ad 408)), (4, .ref (ad 409))] (by decide) rfl dL_law_2358 (fun ls hl => ?_)
  refine z_aload_n C0 hl 4 rfl dL_law_2360 ?_
  obtain ⟨pm, hm1, hm2⟩ := hh2 k M1 F1 hp Wd.2
  refine z_invAd (As := []) (rest := []) C0 Wd hm1 hm2 kv_X12_deliveryFraction zN398 (zE_9 zK398) rfl zk_1976 rfl hl.1 rfl (Nat.le_of_ble_eq_true rfl) ⟨by omega, by omega⟩ ⟨by omega, by omega⟩ dL_law_2361 (fun bb M2 F2 H locs e8 e9 hcr Wd => ?_)
  refine z_dstore C0 hl [(7, .double bb), (6, .int (zI k)), (5, .int (zI i)), (0, .ref b), (1, .ref (ad 0)), (2, .ref (ad 398)), (3, .ref (ad 408)), (4, .ref (ad 409))] (by decide) rfl dL_law_2364 (fun ls hl => ?_)
  refine z_aload_n C0 hl 5 rfl dL_law_2366 ?_
  refine z_invVi (As := []) (rest := []) C0 Wd (ct_X12_thrown l g ad M2 F2) kv_X12_thrown zN398 (zE_9 zK398) rfl zk_1670 rfl hl.1 rfl (Nat.le_of_ble_eq_true rfl) ⟨by omega, by omega⟩ ⟨by omega, by omega⟩ dL_law_2367 (fun r3 M3 F3 H locs hr3 hp3 Wd => ?_)
  obtain ⟨rfl, rfl, rfl⟩ := hp3
  refine z_iload C0 hl 1 rfl dL_law_2370 ?_
  refine z_icmp_eq C0 (tgt := 2377) hr3 hk dL_law_2372 (by decide) (fun _ => ?_) (fun c9 => absurd e8 c9)
  refine z_iload C0 hl 1 rfl dL_law_2377 ?_
  refine z_if_ne C0 (tgt := 2414) hk dL_law_2379 (by decide) (fun k0 => ?_) (fun k0 => ?_)
  · skip
    refine z_goto C0 (tgt := 2902) dL_law_2414 (by decide) ?_
    exact kk M2 F2 H locs ls _ _ (zCR_up hcr (by omega) (by omega)) Wd (lv_sub hl [2, 3, 4, 5, 6, 7] rfl) (by omega) (by omega)
  · skip
    obtain ⟨hz, e9⟩ := e9 k0
    refine z_aload C0 hl 7 rfl dL_law_2382 ?_
    refine z_iconst C0 dL_law_2384 ?_
    refine z_dald C0 Wd zN409 zK409 zL409 (by decide) (by decide) (by decide) e9 dL_law_2385 ?_
    refine z_dload C0 hl 0 rfl dL_law_2386 ?_
    refine z_dcmp C0 (zf_cmpv64 hz) dL_law_2388 ?_
    refine z_if_eq C0 (tgt := 2414) (zR_mk (by decide) (by decide)) dL_law_2389 (by decide) (fun _ => ?_) (fun h9 => absurd rfl h9)
    refine z_goto C0 (tgt := 2902) dL_law_2414 (by decide) ?_
    exact kk M2 F2 H locs ls _ _ (zCR_up hcr (by omega) (by omega)) Wd (lv_sub hl [2, 3, 4, 5, 6, 7] rfl) (by omega) (by omega)
set_option maxHeartbeats 4000000 in
set_option maxRecDepth 100000 in
theorem cs_40 {g : zG} {ad : Int → Nat} {p : Program} {l : Launch} {e : Env} {R : Room} {s : State} {m : MethodId} {below : List Frame} {meth : Method} {c : Code} {Q : State → Prop} {b L : Nat} {xs : Nat → Int32} {H : Heap} {locs : List Loc} {cells slots : Nat} {ls : Array Slot} {M F : zMem} {t d i : Int} (C0 : zC g (fun q => s.heap.size ≤ q) p s m #[.ref b] c cL_law 9 "DrumWarrenLaw") (hX : va_X b L xs s s.heap) (hbl : b < s.heap.size) (hL : L ≤ 2048) (hst : l.stackTraces = false) (hR : 100 ≤ R.frames ∧ 10000 ≤ R.locals) (hf : cells + 3 ≤ R.cells ∧ slots + 18 ≤ R.slots) (Wd : zW g (fun q => s.heap.size ≤ q) s.heap 410 ad M F H locs) (hl : lv_has ls 9 [(5, .int (zI i)), (0, .ref b), (1, .ref (ad 0)), (2, .ref (ad 398)), (3, .ref (ad 408)), (4, .ref (ad 409))]) (h : zCR t d M F) (ht : t ≤ 50000000) (hd : d ≤ 9000) (i0 : 0 ≤ i) (i4 : i + 4 ≤ (L : Int)) (kk : ∀ (M' F' : zMem) (H1 : Heap) (locs1 : List Loc) (ls1 : Array Slot) (c1 s1 : Nat), zCR (t + 7000) (d + 9) M' F' → zW g (fun q => s.heap.size ≤ q) s.heap 410 ad M' F' H1 locs1 → lv_has ls1 9 [(5, .int (zI i)), (0, .ref b), (1, .ref (ad 0)), (2, .ref (ad 398)), (3, .ref (ad 408)), (4, .ref (ad 409))] → c1 ≤ cells + 3 → s1 ≤ slots + 18 → W p l e R s m #[.ref b] below meth c H1 locs1 c1 s1 Q (F0 m 2902 ls1 [])) : W p l e R s m #[.ref b] below meth c H locs cells slots Q (F0 m 2417 ls []) := by
  refine z_aload_n C0 hl 2 rfl dL_law_2417 ?_
  refine z_aload_n C0 hl 1 rfl dL_law_2418 ?_
  refine z_iload C0 hl 0 rfl dL_law_2419 ?_
  refine z_iconst C0 dL_law_2421 ?_
  refine z_iadd C0 dL_law_2422 ?_
  refine z_sld C0 Wd hX hbl (Nat.not_le.mpr hbl) (by omega) (by omega) hL dL_law_2423 ?_
  refine z_aload_n C0 hl 4 rfl dL_law_2424 ?_
  obtain ⟨post, hh1, hh2⟩ := lw_writeMessage l g ad h ht hd Wd.2 (sx xs (i + 1)) (sx_R _ _)
  refine z_invSH (As := [.ref (ad 0), .int (zI (sx xs (i + 1))), .ref (ad 408)]) (rest := []) C0 Wd hst hh1 hs_writeMessage zk_1170 rfl hl.1 rfl (Nat.le_of_ble_eq_true rfl) ⟨by omega, by omega⟩ ⟨by omega, by omega⟩ dL_law_2425 (fun k M1 F1 H locs hk hp Wd => ?_)
  refine z_istore C0 hl [(6, .int (zI k)), (5, .int (zI i)), (0, .ref b), (1, .ref (ad 0)), (2, .ref (ad 398)), (3, .ref (ad 408)), (4, .ref (ad 409))] (by decide) rfl dL_law_2428 (fun ls hl => ?_)
  refine z_aload_n C0 hl 4 rfl dL_law_2430 ?_
  refine z_aload_n C0 hl 2 rfl dL_law_2431 ?_
  refine z_iload C0 hl 1 rfl dL_law_2432 ?_
  refine z_iconst C0 dL_law_2434 ?_
  refine z_iadd C0 dL_law_2435 ?_
  refine z_sld C0 Wd hX hbl (Nat.not_le.mpr hbl) (by omega) (by omega) hL dL_law_2436 ?_
  obtain ⟨pm, hm1, hm2⟩ := hh2 k M1 F1 hp Wd.2
  refine z_invAi (As := [.int (zI (sx xs (i + 1)))]) (rest := []) C0 Wd hm1 hm2 kv_X12_writeMessage zN398 (zE_9 zK398) rfl zk_1984 rfl hl.1 rfl (Nat.le_of_ble_eq_true rfl) ⟨by omega, by omega⟩ ⟨by omega, by omega⟩ dL_law_2437 (fun bb M2 F2 H locs hbz e8 e9 hcr Wd => ?_)
  refine z_istore C0 hl [(7, .int (zI bb)), (6, .int (zI k)), (5, .int (zI i)), (0, .ref b), (1, .ref (ad 0)), (2, .ref (ad 398)), (3, .ref (ad 408)), (4, .ref (ad 409))] (by decide) rfl dL_law_2440 (fun ls hl => ?_)
  refine z_aload_n C0 hl 5 rfl dL_law_2442 ?_
  refine z_invVi (As := []) (rest := []) C0 Wd (ct_X12_thrown l g ad M2 F2) kv_X12_thrown zN398 (zE_9 zK398) rfl zk_1670 rfl hl.1 rfl (Nat.le_of_ble_eq_true rfl) ⟨by omega, by omega⟩ ⟨by omega, by omega⟩ dL_law_2443 (fun r3 M3 F3 H locs hr3 hp3 Wd => ?_)
  obtain ⟨rfl, rfl, rfl⟩ := hp3
  refine z_iload C0 hl 1 rfl dL_law_2446 ?_
  refine z_icmp_eq C0 (tgt := 2453) hr3 hk dL_law_2448 (by decide) (fun _ => ?_) (fun c9 => absurd e8 c9)
  refine z_iload C0 hl 1 rfl dL_law_2453 ?_
  refine z_if_ne C0 (tgt := 2470) hk dL_law_2455 (by decide) (fun k0 => ?_) (fun k0 => ?_)
  · skip
    refine z_goto C0 (tgt := 2902) dL_law_2470 (by decide) ?_
    exact kk M2 F2 H locs ls _ _ (zCR_up hcr (by omega) (by omega)) Wd (lv_sub hl [2, 3, 4, 5, 6, 7] rfl) (by omega) (by omega)
  · skip
    have e9 := e9 k0
    refine z_aload_n C0 hl 6 rfl dL_law_2458 ?_
    refine z_iconst C0 dL_law_2459 ?_
    refine z_lald C0 Wd zN408 zK408 zL408 (by decide) (by decide) (by decide) dL_law_2460 ?_
    refine z_iload C0 hl 0 rfl dL_law_2461 ?_
    refine z_i2l C0 hbz dL_law_2463 ?_
    refine z_lcmpE C0 e9 dL_law_2464 ?_
    refine z_if_eq C0 (tgt := 2470) (zR_mk (by decide) (by decide)) dL_law_2465 (by decide) (fun _ => ?_) (fun h9 => absurd rfl h9)
    refine z_goto C0 (tgt := 2902) dL_law_2470 (by decide) ?_
    exact kk M2 F2 H locs ls _ _ (zCR_up hcr (by omega) (by omega)) Wd (lv_sub hl [2, 3, 4, 5, 6, 7] rfl) (by omega) (by omega)
set_option maxHeartbeats 4000000 in
set_option maxRecDepth 100000 in
theorem cs_41 {g : zG} {ad : Int → Nat} {p : Program} {l : Launch} {e : Env} {R : Room} {s : State} {m : MethodId} {below : List Frame} {meth : Method} {c : Code} {Q : State → Prop} {b L : Nat} {xs : Nat → Int32} {H : Heap} {locs : List Loc} {cells slots : Nat} {ls : Array Slot} {M F : zMem} {t d i : Int} (C0 : zC g (fun q => s.heap.size ≤ q) p s m #[.ref b] c cL_law 9 "DrumWarrenLaw") (hX : va_X b L xs s s.heap) (hbl : b < s.heap.size) (hL : L ≤ 2048) (hst : l.stackTraces = false) (hR : 100 ≤ R.frames ∧ 10000 ≤ R.locals) (hf : cells + 3 ≤ R.cells ∧ slots + 18 ≤ R.slots) (Wd : zW g (fun q => s.heap.size ≤ q) s.heap 410 ad M F H locs) (hl : lv_has ls 9 [(5, .int (zI i)), (0, .ref b), (1, .ref (ad 0)), (2, .ref (ad 398)), (3, .ref (ad 408)), (4, .ref (ad 409))]) (h : zCR t d M F) (ht : t ≤ 50000000) (hd : d ≤ 9000) (i0 : 0 ≤ i) (i4 : i + 4 ≤ (L : Int)) (kk : ∀ (M' F' : zMem) (H1 : Heap) (locs1 : List Loc) (ls1 : Array Slot) (c1 s1 : Nat), zCR (t + 7000) (d + 9) M' F' → zW g (fun q => s.heap.size ≤ q) s.heap 410 ad M' F' H1 locs1 → lv_has ls1 9 [(5, .int (zI i)), (0, .ref b), (1, .ref (ad 0)), (2, .ref (ad 398)), (3, .ref (ad 408)), (4, .ref (ad 409))] → c1 ≤ cells + 3 → s1 ≤ slots + 18 → W p l e R s m #[.ref b] below meth c H1 locs1 c1 s1 Q (F0 m 2902 ls1 [])) : W p l e R s m #[.ref b] below meth c H locs cells slots Q (F0 m 2473 ls []) := by
  refine z_aload_n C0 hl 2 rfl dL_law_2473 ?_
  refine z_aload_n C0 hl 1 rfl dL_law_2474 ?_
  refine z_iload C0 hl 0 rfl dL_law_2475 ?_
  refine z_iconst C0 dL_law_2477 ?_
  refine z_iadd C0 dL_law_2478 ?_
  refine z_sld C0 Wd hX hbl (Nat.not_le.mpr hbl) (by omega) (by omega) hL dL_law_2479 ?_
  refine z_aload_n C0 hl 4 rfl dL_law_2480 ?_
  obtain ⟨post, hh1, hh2⟩ := lw_writeCode l g ad h ht hd Wd.2 (sx xs (i + 1)) (sx_R _ _)
  refine z_invSH (As := [.ref (ad 0), .int (zI (sx xs (i + 1))), .ref (ad 408)]) (rest := []) C0 Wd hst hh1 hs_writeCode zk_1454 rfl hl.1 rfl (Nat.le_of_ble_eq_true rfl) ⟨by omega, by omega⟩ ⟨by omega, by omega⟩ dL_law_2481 (fun k M1 F1 H locs hk hp Wd => ?_)
  refine z_istore C0 hl [(6, .int (zI k)), (5, .int (zI i)), (0, .ref b), (1, .ref (ad 0)), (2, .ref (ad 398)), (3, .ref (ad 408)), (4, .ref (ad 409))] (by decide) rfl dL_law_2484 (fun ls hl => ?_)
  refine z_aload_n C0 hl 4 rfl dL_law_2486 ?_
  refine z_aload_n C0 hl 2 rfl dL_law_2487 ?_
  refine z_iload C0 hl 1 rfl dL_law_2488 ?_
  refine z_iconst C0 dL_law_2490 ?_
  refine z_iadd C0 dL_law_2491 ?_
  refine z_sld C0 Wd hX hbl (Nat.not_le.mpr hbl) (by omega) (by omega) hL dL_law_2492 ?_
  obtain ⟨pm, hm1, hm2⟩ := hh2 k M1 F1 hp Wd.2
  refine z_invAi (As := [.int (zI (sx xs (i + 1)))]) (rest := []) C0 Wd hm1 hm2 kv_X12_writeCode zN398 (zE_9 zK398) rfl zk_1996 rfl hl.1 rfl (Nat.le_of_ble_eq_true rfl) ⟨by omega, by omega⟩ ⟨by omega, by omega⟩ dL_law_2493 (fun bb M2 F2 H locs hbz e8 e9 hcr Wd => ?_)
  refine z_istore C0 hl [(7, .int (zI bb)), (6, .int (zI k)), (5, .int (zI i)), (0, .ref b), (1, .ref (ad 0)), (2, .ref (ad 398)), (3, .ref (ad 408)), (4, .ref (ad 409))] (by decide) rfl dL_law_2496 (fun ls hl => ?_)
  refine z_aload_n C0 hl 5 rfl dL_law_2498 ?_
  refine z_invVi (As := []) (rest := []) C0 Wd (ct_X12_thrown l g ad M2 F2) kv_X12_thrown zN398 (zE_9 zK398) rfl zk_1670 rfl hl.1 rfl (Nat.le_of_ble_eq_true rfl) ⟨by omega, by omega⟩ ⟨by omega, by omega⟩ dL_law_2499 (fun r3 M3 F3 H locs hr3 hp3 Wd => ?_)
  obtain ⟨rfl, rfl, rfl⟩ := hp3
  refine z_iload C0 hl 1 rfl dL_law_2502 ?_
  refine z_icmp_eq C0 (tgt := 2509) hr3 hk dL_law_2504 (by decide) (fun _ => ?_) (fun c9 => absurd e8 c9)
  refine z_iload C0 hl 1 rfl dL_law_2509 ?_
  refine z_if_ne C0 (tgt := 2526) hk dL_law_2511 (by decide) (fun k0 => ?_) (fun k0 => ?_)
  · skip
    refine z_goto C0 (tgt := 2902) dL_law_2526 (by decide) ?_
    exact kk M2 F2 H locs ls _ _ (zCR_up hcr (by omega) (by omega)) Wd (lv_sub hl [2, 3, 4, 5, 6, 7] rfl) (by omega) (by omega)
  · skip
    have e9 := e9 k0
    refine z_aload_n C0 hl 6 rfl dL_law_2514 ?_
    refine z_iconst C0 dL_law_2515 ?_
    refine z_lald C0 Wd zN408 zK408 zL408 (by decide) (by decide) (by decide) dL_law_2516 ?_
    refine z_iload C0 hl 0 rfl dL_law_2517 ?_
    refine z_i2l C0 hbz dL_law_2519 ?_
    refine z_lcmpE C0 e9 dL_law_2520 ?_
    refine z_if_eq C0 (tgt := 2526) (zR_mk (by decide) (by decide)) dL_law_2521 (by decide) (fun _ => ?_) (fun h9 => absurd rfl h9)
    refine z_goto C0 (tgt := 2902) dL_law_2526 (by decide) ?_
    exact kk M2 F2 H locs ls _ _ (zCR_up hcr (by omega) (by omega)) Wd (lv_sub hl [2, 3, 4, 5, 6, 7] rfl) (by omega) (by omega)
set_option maxHeartbeats 4000000 in
set_option maxRecDepth 100000 in
theorem cs_42 {g : zG} {ad : Int → Nat} {p : Program} {l : Launch} {e : Env} {R : Room} {s : State} {m : MethodId} {below : List Frame} {meth : Method} {c : Code} {Q : State → Prop} {b L : Nat} {xs : Nat → Int32} {H : Heap} {locs : List Loc} {cells slots : Nat} {ls : Array Slot} {M F : zMem} {t d i : Int} (C0 : zC g (fun q => s.heap.size ≤ q) p s m #[.ref b] c cL_law 9 "DrumWarrenLaw") (hX : va_X b L xs s s.heap) (hbl : b < s.heap.size) (hL : L ≤ 2048) (hst : l.stackTraces = false) (hR : 100 ≤ R.frames ∧ 10000 ≤ R.locals) (hf : cells + 3 ≤ R.cells ∧ slots + 18 ≤ R.slots) (Wd : zW g (fun q => s.heap.size ≤ q) s.heap 410 ad M F H locs) (hl : lv_has ls 9 [(5, .int (zI i)), (0, .ref b), (1, .ref (ad 0)), (2, .ref (ad 398)), (3, .ref (ad 408)), (4, .ref (ad 409))]) (h : zCR t d M F) (ht : t ≤ 50000000) (hd : d ≤ 9000) (i0 : 0 ≤ i) (i4 : i + 4 ≤ (L : Int)) (kk : ∀ (M' F' : zMem) (H1 : Heap) (locs1 : List Loc) (ls1 : Array Slot) (c1 s1 : Nat), zCR (t + 7000) (d + 9) M' F' → zW g (fun q => s.heap.size ≤ q) s.heap 410 ad M' F' H1 locs1 → lv_has ls1 9 [(5, .int (zI i)), (0, .ref b), (1, .ref (ad 0)), (2, .ref (ad 398)), (3, .ref (ad 408)), (4, .ref (ad 409))] → c1 ≤ cells + 3 → s1 ≤ slots + 18 → W p l e R s m #[.ref b] below meth c H1 locs1 c1 s1 Q (F0 m 2902 ls1 [])) : W p l e R s m #[.ref b] below meth c H locs cells slots Q (F0 m 2529 ls []) := by
  refine z_aload_n C0 hl 2 rfl dL_law_2529 ?_
  refine z_aload_n C0 hl 1 rfl dL_law_2530 ?_
  refine z_iload C0 hl 0 rfl dL_law_2531 ?_
  refine z_iconst C0 dL_law_2533 ?_
  refine z_iadd C0 dL_law_2534 ?_
  refine z_sld C0 Wd hX hbl (Nat.not_le.mpr hbl) (by omega) (by omega) hL dL_law_2535 ?_
  refine z_aload_n C0 hl 4 rfl dL_law_2536 ?_
  obtain ⟨post, hh1, hh2⟩ := lw_outputCharacter l g ad h ht hd Wd.2 (sx xs (i + 1)) (sx_R _ _)
  refine z_invSH (As := [.ref (ad 0), .int (zI (sx xs (i + 1))), .ref (ad 408)]) (rest := []) C0 Wd hst hh1 hs_outputCharacter zk_1461 rfl hl.1 rfl (Nat.le_of_ble_eq_true rfl) ⟨by omega, by omega⟩ ⟨by omega, by omega⟩ dL_law_2537 (fun k M1 F1 H locs hk hp Wd => ?_)
  refine z_istore C0 hl [(6, .int (zI k)), (5, .int (zI i)), (0, .ref b), (1, .ref (ad 0)), (2, .ref (ad 398)), (3, .ref (ad 408)), (4, .ref (ad 409))] (by decide) rfl dL_law_2540 (fun ls hl => ?_)
  refine z_aload_n C0 hl 4 rfl dL_law_2542 ?_
  refine z_aload_n C0 hl 2 rfl dL_law_2543 ?_
  refine z_iload C0 hl 1 rfl dL_law_2544 ?_
  refine z_iconst C0 dL_law_2546 ?_
  refine z_iadd C0 dL_law_2547 ?_
  refine z_sld C0 Wd hX hbl (Nat.not_le.mpr hbl) (by omega) (by omega) hL dL_law_2548 ?_
  obtain ⟨pm, hm1, hm2⟩ := hh2 k M1 F1 hp Wd.2
  refine z_invAi (As := [.int (zI (sx xs (i + 1)))]) (rest := []) C0 Wd hm1 hm2 kv_X12_outputCharacter zN398 (zE_9 zK398) rfl zk_2000 rfl hl.1 rfl (Nat.le_of_ble_eq_true rfl) ⟨by omega, by omega⟩ ⟨by omega, by omega⟩ dL_law_2549 (fun bb M2 F2 H locs hbz e8 e9 hcr Wd => ?_)
  refine z_istore C0 hl [(7, .int (zI bb)), (6, .int (zI k)), (5, .int (zI i)), (0, .ref b), (1, .ref (ad 0)), (2, .ref (ad 398)), (3, .ref (ad 408)), (4, .ref (ad 409))] (by decide) rfl dL_law_2552 (fun ls hl => ?_)
  refine z_aload_n C0 hl 5 rfl dL_law_2554 ?_
  refine z_invVi (As := []) (rest := []) C0 Wd (ct_X12_thrown l g ad M2 F2) kv_X12_thrown zN398 (zE_9 zK398) rfl zk_1670 rfl hl.1 rfl (Nat.le_of_ble_eq_true rfl) ⟨by omega, by omega⟩ ⟨by omega, by omega⟩ dL_law_2555 (fun r3 M3 F3 H locs hr3 hp3 Wd => ?_)
  obtain ⟨rfl, rfl, rfl⟩ := hp3
  refine z_iload C0 hl 1 rfl dL_law_2558 ?_
  refine z_icmp_eq C0 (tgt := 2565) hr3 hk dL_law_2560 (by decide) (fun _ => ?_) (fun c9 => absurd e8 c9)
  refine z_iload C0 hl 1 rfl dL_law_2565 ?_
  refine z_if_ne C0 (tgt := 2582) hk dL_law_2567 (by decide) (fun k0 => ?_) (fun k0 => ?_)
  · skip
    refine z_goto C0 (tgt := 2902) dL_law_2582 (by decide) ?_
    exact kk M2 F2 H locs ls _ _ (zCR_up hcr (by omega) (by omega)) Wd (lv_sub hl [2, 3, 4, 5, 6, 7] rfl) (by omega) (by omega)
  · skip
    have e9 := e9 k0
    refine z_aload_n C0 hl 6 rfl dL_law_2570 ?_
    refine z_iconst C0 dL_law_2571 ?_
    refine z_lald C0 Wd zN408 zK408 zL408 (by decide) (by decide) (by decide) dL_law_2572 ?_
    refine z_iload C0 hl 0 rfl dL_law_2573 ?_
    refine z_i2l C0 hbz dL_law_2575 ?_
    refine z_lcmpE C0 e9 dL_law_2576 ?_
    refine z_if_eq C0 (tgt := 2582) (zR_mk (by decide) (by decide)) dL_law_2577 (by decide) (fun _ => ?_) (fun h9 => absurd rfl h9)
    refine z_goto C0 (tgt := 2902) dL_law_2582 (by decide) ?_
    exact kk M2 F2 H locs ls _ _ (zCR_up hcr (by omega) (by omega)) Wd (lv_sub hl [2, 3, 4, 5, 6, 7] rfl) (by omega) (by omega)
set_option maxHeartbeats 4000000 in
set_option maxRecDepth 100000 in
theorem cs_43 {g : zG} {ad : Int → Nat} {p : Program} {l : Launch} {e : Env} {R : Room} {s : State} {m : MethodId} {below : List Frame} {meth : Method} {c : Code} {Q : State → Prop} {b L : Nat} {xs : Nat → Int32} {H : Heap} {locs : List Loc} {cells slots : Nat} {ls : Array Slot} {M F : zMem} {t d i : Int} (C0 : zC g (fun q => s.heap.size ≤ q) p s m #[.ref b] c cL_law 9 "DrumWarrenLaw") (hX : va_X b L xs s s.heap) (hbl : b < s.heap.size) (hL : L ≤ 2048) (hst : l.stackTraces = false) (hR : 100 ≤ R.frames ∧ 10000 ≤ R.locals) (hf : cells + 3 ≤ R.cells ∧ slots + 18 ≤ R.slots) (Wd : zW g (fun q => s.heap.size ≤ q) s.heap 410 ad M F H locs) (hl : lv_has ls 9 [(5, .int (zI i)), (0, .ref b), (1, .ref (ad 0)), (2, .ref (ad 398)), (3, .ref (ad 408)), (4, .ref (ad 409))]) (h : zCR t d M F) (ht : t ≤ 50000000) (hd : d ≤ 9000) (i0 : 0 ≤ i) (i4 : i + 4 ≤ (L : Int)) (kk : ∀ (M' F' : zMem) (H1 : Heap) (locs1 : List Loc) (ls1 : Array Slot) (c1 s1 : Nat), zCR (t + 7000) (d + 9) M' F' → zW g (fun q => s.heap.size ≤ q) s.heap 410 ad M' F' H1 locs1 → lv_has ls1 9 [(5, .int (zI i)), (0, .ref b), (1, .ref (ad 0)), (2, .ref (ad 398)), (3, .ref (ad 408)), (4, .ref (ad 409))] → c1 ≤ cells + 3 → s1 ≤ slots + 18 → W p l e R s m #[.ref b] below meth c H1 locs1 c1 s1 Q (F0 m 2902 ls1 [])) : W p l e R s m #[.ref b] below meth c H locs cells slots Q (F0 m 2585 ls []) := by
  refine z_aload_n C0 hl 2 rfl dL_law_2585 ?_
  obtain ⟨post, hh1, hh2⟩ := lp_isConsistent l g ad h ht hd Wd.2
  refine z_invVi (As := []) (rest := []) C0 Wd hh1 kv_X11_isConsistent zN0 (zE_8 zK0) rfl zk_441 rfl hl.1 rfl (Nat.le_of_ble_eq_true rfl) ⟨by omega, by omega⟩ ⟨by omega, by omega⟩ dL_law_2586 (fun k M1 F1 H locs hk hp Wd => ?_)
  refine z_aload_n C0 hl 3 rfl dL_law_2589 ?_
  obtain ⟨pm, hm1, hm2⟩ := hh2 k M1 F1 hp Wd.2
  refine z_invVi (As := []) (rest := [.int (zI k)]) C0 Wd hm1 kv_X12_isConsistent zN398 (zE_9 zK398) rfl zk_1980 rfl hl.1 rfl (Nat.le_of_ble_eq_true rfl) ⟨by omega, by omega⟩ ⟨by omega, by omega⟩ dL_law_2590 (fun bb M2 F2 H locs hbz hp2 Wd => ?_)
  obtain ⟨e9, hcr⟩ := hm2 bb M2 F2 hp2
  refine z_icmp_eq C0 (tgt := 2902) hk hbz dL_law_2593 (by decide) (fun _ => ?_) (fun c9 => absurd e9.symm c9)
  exact kk M2 F2 H locs ls _ _ (zCR_up hcr (by omega) (by omega)) Wd (lv_sub hl [0, 1, 2, 3, 4, 5] rfl) (by omega) (by omega)
set_option maxHeartbeats 4000000 in
set_option maxRecDepth 100000 in
theorem cs_44 {g : zG} {ad : Int → Nat} {p : Program} {l : Launch} {e : Env} {R : Room} {s : State} {m : MethodId} {below : List Frame} {meth : Method} {c : Code} {Q : State → Prop} {b L : Nat} {xs : Nat → Int32} {H : Heap} {locs : List Loc} {cells slots : Nat} {ls : Array Slot} {M F : zMem} {t d i : Int} (C0 : zC g (fun q => s.heap.size ≤ q) p s m #[.ref b] c cL_law 9 "DrumWarrenLaw") (hX : va_X b L xs s s.heap) (hbl : b < s.heap.size) (hL : L ≤ 2048) (hst : l.stackTraces = false) (hR : 100 ≤ R.frames ∧ 10000 ≤ R.locals) (hf : cells + 3 ≤ R.cells ∧ slots + 18 ≤ R.slots) (Wd : zW g (fun q => s.heap.size ≤ q) s.heap 410 ad M F H locs) (hl : lv_has ls 9 [(5, .int (zI i)), (0, .ref b), (1, .ref (ad 0)), (2, .ref (ad 398)), (3, .ref (ad 408)), (4, .ref (ad 409))]) (h : zCR t d M F) (ht : t ≤ 50000000) (hd : d ≤ 9000) (i0 : 0 ≤ i) (i4 : i + 4 ≤ (L : Int)) (kk : ∀ (M' F' : zMem) (H1 : Heap) (locs1 : List Loc) (ls1 : Array Slot) (c1 s1 : Nat), zCR (t + 7000) (d + 9) M' F' → zW g (fun q => s.heap.size ≤ q) s.heap 410 ad M' F' H1 locs1 → lv_has ls1 9 [(5, .int (zI i)), (0, .ref b), (1, .ref (ad 0)), (2, .ref (ad 398)), (3, .ref (ad 408)), (4, .ref (ad 409))] → c1 ≤ cells + 3 → s1 ≤ slots + 18 → W p l e R s m #[.ref b] below meth c H1 locs1 c1 s1 Q (F0 m 2902 ls1 [])) : W p l e R s m #[.ref b] below meth c H locs cells slots Q (F0 m 2598 ls []) := by
  refine z_aload_n C0 hl 2 rfl dL_law_2598 ?_
  refine z_aload_n C0 hl 1 rfl dL_law_2599 ?_
  refine z_iload C0 hl 0 rfl dL_law_2600 ?_
  refine z_iconst C0 dL_law_2602 ?_
  refine z_iadd C0 dL_law_2603 ?_
  refine z_sld C0 Wd hX hbl (Nat.not_le.mpr hbl) (by omega) (by omega) hL dL_law_2604 ?_
  refine z_i2c C0 (z_ch (sx_R _ _)) dL_law_2605 ?_
  refine z_aload_n C0 hl 4 rfl dL_law_2606 ?_
  obtain ⟨post, hh1, hh2⟩ := lw_feed l g ad h ht hd Wd.2 ((sx xs (i + 1)) % 65536) (zR_mk (by omega) (by omega)) ⟨by omega, by omega⟩
  refine z_invSH (As := [.ref (ad 0), .int (zI ((sx xs (i + 1)) % 65536)), .ref (ad 408)]) (rest := []) C0 Wd hst hh1 hs_feed zk_1479 rfl hl.1 rfl (Nat.le_of_ble_eq_true rfl) ⟨by omega, by omega⟩ ⟨by omega, by omega⟩ dL_law_2607 (fun k M1 F1 H locs hk hp Wd => ?_)
  refine z_istore C0 hl [(6, .int (zI k)), (5, .int (zI i)), (0, .ref b), (1, .ref (ad 0)), (2, .ref (ad 398)), (3, .ref (ad 408)), (4, .ref (ad 409))] (by decide) rfl dL_law_2610 (fun ls hl => ?_)
  refine z_aload_n C0 hl 4 rfl dL_law_2612 ?_
  refine z_aload_n C0 hl 2 rfl dL_law_2613 ?_
  refine z_iload C0 hl 1 rfl dL_law_2614 ?_
  refine z_iconst C0 dL_law_2616 ?_
  refine z_iadd C0 dL_law_2617 ?_
  refine z_sld C0 Wd hX hbl (Nat.not_le.mpr hbl) (by omega) (by omega) hL dL_law_2618 ?_
  refine z_i2c C0 (z_ch (sx_R _ _)) dL_law_2619 ?_
  obtain ⟨pm, hm1, hm2⟩ := hh2 k M1 F1 hp Wd.2
  refine z_invAi (As := [.int (zI ((sx xs (i + 1)) % 65536))]) (rest := []) C0 Wd hm1 hm2 kv_X12_feed zN398 (zE_9 zK398) rfl zk_2004 rfl hl.1 rfl (Nat.le_of_ble_eq_true rfl) ⟨by omega, by omega⟩ ⟨by omega, by omega⟩ dL_law_2620 (fun bb M2 F2 H locs hbz e8 e9 hcr Wd => ?_)
  refine z_istore C0 hl [(7, .int (zI bb)), (6, .int (zI k)), (5, .int (zI i)), (0, .ref b), (1, .ref (ad 0)), (2, .ref (ad 398)), (3, .ref (ad 408)), (4, .ref (ad 409))] (by decide) rfl dL_law_2623 (fun ls hl => ?_)
  refine z_aload_n C0 hl 5 rfl dL_law_2625 ?_
  refine z_invVi (As := []) (rest := []) C0 Wd (ct_X12_thrown l g ad M2 F2) kv_X12_thrown zN398 (zE_9 zK398) rfl zk_1670 rfl hl.1 rfl (Nat.le_of_ble_eq_true rfl) ⟨by omega, by omega⟩ ⟨by omega, by omega⟩ dL_law_2626 (fun r3 M3 F3 H locs hr3 hp3 Wd => ?_)
  obtain ⟨rfl, rfl, rfl⟩ := hp3
  refine z_iload C0 hl 1 rfl dL_law_2629 ?_
  refine z_icmp_eq C0 (tgt := 2636) hr3 hk dL_law_2631 (by decide) (fun _ => ?_) (fun c9 => absurd e8 c9)
  refine z_iload C0 hl 1 rfl dL_law_2636 ?_
  refine z_if_ne C0 (tgt := 2653) hk dL_law_2638 (by decide) (fun k0 => ?_) (fun k0 => ?_)
  · skip
    refine z_goto C0 (tgt := 2902) dL_law_2653 (by decide) ?_
    exact kk M2 F2 H locs ls _ _ (zCR_up hcr (by omega) (by omega)) Wd (lv_sub hl [2, 3, 4, 5, 6, 7] rfl) (by omega) (by omega)
  · skip
    have e9 := e9 k0
    refine z_aload_n C0 hl 6 rfl dL_law_2641 ?_
    refine z_iconst C0 dL_law_2642 ?_
    refine z_lald C0 Wd zN408 zK408 zL408 (by decide) (by decide) (by decide) dL_law_2643 ?_
    refine z_iload C0 hl 0 rfl dL_law_2644 ?_
    refine z_i2l C0 hbz dL_law_2646 ?_
    refine z_lcmpE C0 e9 dL_law_2647 ?_
    refine z_if_eq C0 (tgt := 2653) (zR_mk (by decide) (by decide)) dL_law_2648 (by decide) (fun _ => ?_) (fun h9 => absurd rfl h9)
    refine z_goto C0 (tgt := 2902) dL_law_2653 (by decide) ?_
    exact kk M2 F2 H locs ls _ _ (zCR_up hcr (by omega) (by omega)) Wd (lv_sub hl [2, 3, 4, 5, 6, 7] rfl) (by omega) (by omega)
set_option maxHeartbeats 4000000 in
set_option maxRecDepth 100000 in
theorem cs_45 {g : zG} {ad : Int → Nat} {p : Program} {l : Launch} {e : Env} {R : Room} {s : State} {m : MethodId} {below : List Frame} {meth : Method} {c : Code} {Q : State → Prop} {b L : Nat} {xs : Nat → Int32} {H : Heap} {locs : List Loc} {cells slots : Nat} {ls : Array Slot} {M F : zMem} {t d i : Int} (C0 : zC g (fun q => s.heap.size ≤ q) p s m #[.ref b] c cL_law 9 "DrumWarrenLaw") (hX : va_X b L xs s s.heap) (hbl : b < s.heap.size) (hL : L ≤ 2048) (hst : l.stackTraces = false) (hR : 100 ≤ R.frames ∧ 10000 ≤ R.locals) (hf : cells + 3 ≤ R.cells ∧ slots + 18 ≤ R.slots) (Wd : zW g (fun q => s.heap.size ≤ q) s.heap 410 ad M F H locs) (hl : lv_has ls 9 [(5, .int (zI i)), (0, .ref b), (1, .ref (ad 0)), (2, .ref (ad 398)), (3, .ref (ad 408)), (4, .ref (ad 409))]) (h : zCR t d M F) (ht : t ≤ 50000000) (hd : d ≤ 9000) (i0 : 0 ≤ i) (i4 : i + 4 ≤ (L : Int)) (kk : ∀ (M' F' : zMem) (H1 : Heap) (locs1 : List Loc) (ls1 : Array Slot) (c1 s1 : Nat), zCR (t + 7000) (d + 9) M' F' → zW g (fun q => s.heap.size ≤ q) s.heap 410 ad M' F' H1 locs1 → lv_has ls1 9 [(5, .int (zI i)), (0, .ref b), (1, .ref (ad 0)), (2, .ref (ad 398)), (3, .ref (ad 408)), (4, .ref (ad 409))] → c1 ≤ cells + 3 → s1 ≤ slots + 18 → W p l e R s m #[.ref b] below meth c H1 locs1 c1 s1 Q (F0 m 2902 ls1 [])) : W p l e R s m #[.ref b] below meth c H locs cells slots Q (F0 m 2656 ls []) := by
  refine z_aload_n C0 hl 2 rfl dL_law_2656 ?_
  refine z_aload_n C0 hl 4 rfl dL_law_2657 ?_
  obtain ⟨post, hh1, hh2⟩ := lw_execute l g ad h ht hd Wd.2
  refine z_invSH (As := [.ref (ad 0), .ref (ad 408)]) (rest := []) C0 Wd hst hh1 hs_execute zk_1491 rfl hl.1 rfl (Nat.le_of_ble_eq_true rfl) ⟨by omega, by omega⟩ ⟨by omega, by omega⟩ dL_law_2658 (fun k M1 F1 H locs hk hp Wd => ?_)
  refine z_istore C0 hl [(6, .int (zI k)), (5, .int (zI i)), (0, .ref b), (1, .ref (ad 0)), (2, .ref (ad 398)), (3, .ref (ad 408)), (4, .ref (ad 409))] (by decide) rfl dL_law_2661 (fun ls hl => ?_)
  refine z_aload_n C0 hl 4 rfl dL_law_2663 ?_
  obtain ⟨pm, hm1, hm2⟩ := hh2 k M1 F1 hp Wd.2
  refine z_invAi (As := []) (rest := []) C0 Wd hm1 hm2 kv_X12_execute zN398 (zE_9 zK398) rfl zk_2008 rfl hl.1 rfl (Nat.le_of_ble_eq_true rfl) ⟨by omega, by omega⟩ ⟨by omega, by omega⟩ dL_law_2664 (fun bb M2 F2 H locs hbz e8 e9 hcr Wd => ?_)
  refine z_istore C0 hl [(7, .int (zI bb)), (6, .int (zI k)), (5, .int (zI i)), (0, .ref b), (1, .ref (ad 0)), (2, .ref (ad 398)), (3, .ref (ad 408)), (4, .ref (ad 409))] (by decide) rfl dL_law_2667 (fun ls hl => ?_)
  refine z_aload_n C0 hl 5 rfl dL_law_2669 ?_
  refine z_invVi (As := []) (rest := []) C0 Wd (ct_X12_thrown l g ad M2 F2) kv_X12_thrown zN398 (zE_9 zK398) rfl zk_1670 rfl hl.1 rfl (Nat.le_of_ble_eq_true rfl) ⟨by omega, by omega⟩ ⟨by omega, by omega⟩ dL_law_2670 (fun r3 M3 F3 H locs hr3 hp3 Wd => ?_)
  obtain ⟨rfl, rfl, rfl⟩ := hp3
  refine z_iload C0 hl 1 rfl dL_law_2673 ?_
  refine z_icmp_eq C0 (tgt := 2680) hr3 hk dL_law_2675 (by decide) (fun _ => ?_) (fun c9 => absurd e8 c9)
  refine z_iload C0 hl 1 rfl dL_law_2680 ?_
  refine z_if_ne C0 (tgt := 2697) hk dL_law_2682 (by decide) (fun k0 => ?_) (fun k0 => ?_)
  · skip
    refine z_goto C0 (tgt := 2902) dL_law_2697 (by decide) ?_
    exact kk M2 F2 H locs ls _ _ (zCR_up hcr (by omega) (by omega)) Wd (lv_sub hl [2, 3, 4, 5, 6, 7] rfl) (by omega) (by omega)
  · skip
    have e9 := e9 k0
    refine z_aload_n C0 hl 6 rfl dL_law_2685 ?_
    refine z_iconst C0 dL_law_2686 ?_
    refine z_lald C0 Wd zN408 zK408 zL408 (by decide) (by decide) (by decide) dL_law_2687 ?_
    refine z_iload C0 hl 0 rfl dL_law_2688 ?_
    refine z_i2l C0 hbz dL_law_2690 ?_
    refine z_lcmpE C0 e9 dL_law_2691 ?_
    refine z_if_eq C0 (tgt := 2697) (zR_mk (by decide) (by decide)) dL_law_2692 (by decide) (fun _ => ?_) (fun h9 => absurd rfl h9)
    refine z_goto C0 (tgt := 2902) dL_law_2697 (by decide) ?_
    exact kk M2 F2 H locs ls _ _ (zCR_up hcr (by omega) (by omega)) Wd (lv_sub hl [2, 3, 4, 5, 6, 7] rfl) (by omega) (by omega)
set_option maxHeartbeats 4000000 in
set_option maxRecDepth 100000 in
theorem cs_46 {g : zG} {ad : Int → Nat} {p : Program} {l : Launch} {e : Env} {R : Room} {s : State} {m : MethodId} {below : List Frame} {meth : Method} {c : Code} {Q : State → Prop} {b L : Nat} {xs : Nat → Int32} {H : Heap} {locs : List Loc} {cells slots : Nat} {ls : Array Slot} {M F : zMem} {t d i : Int} (C0 : zC g (fun q => s.heap.size ≤ q) p s m #[.ref b] c cL_law 9 "DrumWarrenLaw") (hX : va_X b L xs s s.heap) (hbl : b < s.heap.size) (hL : L ≤ 2048) (hst : l.stackTraces = false) (hR : 100 ≤ R.frames ∧ 10000 ≤ R.locals) (hf : cells + 3 ≤ R.cells ∧ slots + 18 ≤ R.slots) (Wd : zW g (fun q => s.heap.size ≤ q) s.heap 410 ad M F H locs) (hl : lv_has ls 9 [(5, .int (zI i)), (0, .ref b), (1, .ref (ad 0)), (2, .ref (ad 398)), (3, .ref (ad 408)), (4, .ref (ad 409))]) (h : zCR t d M F) (ht : t ≤ 50000000) (hd : d ≤ 9000) (i0 : 0 ≤ i) (i4 : i + 4 ≤ (L : Int)) (kk : ∀ (M' F' : zMem) (H1 : Heap) (locs1 : List Loc) (ls1 : Array Slot) (c1 s1 : Nat), zCR (t + 7000) (d + 9) M' F' → zW g (fun q => s.heap.size ≤ q) s.heap 410 ad M' F' H1 locs1 → lv_has ls1 9 [(5, .int (zI i)), (0, .ref b), (1, .ref (ad 0)), (2, .ref (ad 398)), (3, .ref (ad 408)), (4, .ref (ad 409))] → c1 ≤ cells + 3 → s1 ≤ slots + 18 → W p l e R s m #[.ref b] below meth c H1 locs1 c1 s1 Q (F0 m 2902 ls1 [])) : W p l e R s m #[.ref b] below meth c H locs cells slots Q (F0 m 2700 ls []) := by
  refine z_aload_n C0 hl 2 rfl dL_law_2700 ?_
  refine z_aload_n C0 hl 4 rfl dL_law_2701 ?_
  obtain ⟨post, hh1, hh2⟩ := lw_errorPosition l g ad h ht hd Wd.2
  refine z_invSH (As := [.ref (ad 0), .ref (ad 408)]) (rest := []) C0 Wd hst hh1 hs_errorPosition zk_1570 rfl hl.1 rfl (Nat.le_of_ble_eq_true rfl) ⟨by omega, by omega⟩ ⟨by omega, by omega⟩ dL_law_2702 (fun k M1 F1 H locs hk hp Wd => ?_)
  refine z_istore C0 hl [(6, .int (zI k)), (5, .int (zI i)), (0, .ref b), (1, .ref (ad 0)), (2, .ref (ad 398)), (3, .ref (ad 408)), (4, .ref (ad 409))] (by decide) rfl dL_law_2705 (fun ls hl => ?_)
  refine z_aload_n C0 hl 4 rfl dL_law_2707 ?_
  obtain ⟨pm, hm1, hm2⟩ := hh2 k M1 F1 hp Wd.2
  refine z_invAi (As := []) (rest := []) C0 Wd hm1 hm2 kv_X12_errorPosition zN398 (zE_9 zK398) rfl zk_2055 rfl hl.1 rfl (Nat.le_of_ble_eq_true rfl) ⟨by omega, by omega⟩ ⟨by omega, by omega⟩ dL_law_2708 (fun bb M2 F2 H locs hbz e8 e9 hcr Wd => ?_)
  refine z_istore C0 hl [(7, .int (zI bb)), (6, .int (zI k)), (5, .int (zI i)), (0, .ref b), (1, .ref (ad 0)), (2, .ref (ad 398)), (3, .ref (ad 408)), (4, .ref (ad 409))] (by decide) rfl dL_law_2711 (fun ls hl => ?_)
  refine z_aload_n C0 hl 5 rfl dL_law_2713 ?_
  refine z_invVi (As := []) (rest := []) C0 Wd (ct_X12_thrown l g ad M2 F2) kv_X12_thrown zN398 (zE_9 zK398) rfl zk_1670 rfl hl.1 rfl (Nat.le_of_ble_eq_true rfl) ⟨by omega, by omega⟩ ⟨by omega, by omega⟩ dL_law_2714 (fun r3 M3 F3 H locs hr3 hp3 Wd => ?_)
  obtain ⟨rfl, rfl, rfl⟩ := hp3
  refine z_iload C0 hl 1 rfl dL_law_2717 ?_
  refine z_icmp_eq C0 (tgt := 2724) hr3 hk dL_law_2719 (by decide) (fun _ => ?_) (fun c9 => absurd e8 c9)
  refine z_iload C0 hl 1 rfl dL_law_2724 ?_
  refine z_if_ne C0 (tgt := 2741) hk dL_law_2726 (by decide) (fun k0 => ?_) (fun k0 => ?_)
  · skip
    refine z_goto C0 (tgt := 2902) dL_law_2741 (by decide) ?_
    exact kk M2 F2 H locs ls _ _ (zCR_up hcr (by omega) (by omega)) Wd (lv_sub hl [2, 3, 4, 5, 6, 7] rfl) (by omega) (by omega)
  · skip
    have e9 := e9 k0
    refine z_aload_n C0 hl 6 rfl dL_law_2729 ?_
    refine z_iconst C0 dL_law_2730 ?_
    refine z_lald C0 Wd zN408 zK408 zL408 (by decide) (by decide) (by decide) dL_law_2731 ?_
    refine z_iload C0 hl 0 rfl dL_law_2732 ?_
    refine z_i2l C0 hbz dL_law_2734 ?_
    refine z_lcmpE C0 e9 dL_law_2735 ?_
    refine z_if_eq C0 (tgt := 2741) (zR_mk (by decide) (by decide)) dL_law_2736 (by decide) (fun _ => ?_) (fun h9 => absurd rfl h9)
    refine z_goto C0 (tgt := 2902) dL_law_2741 (by decide) ?_
    exact kk M2 F2 H locs ls _ _ (zCR_up hcr (by omega) (by omega)) Wd (lv_sub hl [2, 3, 4, 5, 6, 7] rfl) (by omega) (by omega)
set_option maxHeartbeats 4000000 in
set_option maxRecDepth 100000 in
theorem cs_47 {g : zG} {ad : Int → Nat} {p : Program} {l : Launch} {e : Env} {R : Room} {s : State} {m : MethodId} {below : List Frame} {meth : Method} {c : Code} {Q : State → Prop} {b L : Nat} {xs : Nat → Int32} {H : Heap} {locs : List Loc} {cells slots : Nat} {ls : Array Slot} {M F : zMem} {t d i : Int} (C0 : zC g (fun q => s.heap.size ≤ q) p s m #[.ref b] c cL_law 9 "DrumWarrenLaw") (hX : va_X b L xs s s.heap) (hbl : b < s.heap.size) (hL : L ≤ 2048) (hst : l.stackTraces = false) (hR : 100 ≤ R.frames ∧ 10000 ≤ R.locals) (hf : cells + 3 ≤ R.cells ∧ slots + 18 ≤ R.slots) (Wd : zW g (fun q => s.heap.size ≤ q) s.heap 410 ad M F H locs) (hl : lv_has ls 9 [(5, .int (zI i)), (0, .ref b), (1, .ref (ad 0)), (2, .ref (ad 398)), (3, .ref (ad 408)), (4, .ref (ad 409))]) (h : zCR t d M F) (ht : t ≤ 50000000) (hd : d ≤ 9000) (i0 : 0 ≤ i) (i4 : i + 4 ≤ (L : Int)) (kk : ∀ (M' F' : zMem) (H1 : Heap) (locs1 : List Loc) (ls1 : Array Slot) (c1 s1 : Nat), zCR (t + 7000) (d + 9) M' F' → zW g (fun q => s.heap.size ≤ q) s.heap 410 ad M' F' H1 locs1 → lv_has ls1 9 [(5, .int (zI i)), (0, .ref b), (1, .ref (ad 0)), (2, .ref (ad 398)), (3, .ref (ad 408)), (4, .ref (ad 409))] → c1 ≤ cells + 3 → s1 ≤ slots + 18 → W p l e R s m #[.ref b] below meth c H1 locs1 c1 s1 Q (F0 m 2902 ls1 [])) : W p l e R s m #[.ref b] below meth c H locs cells slots Q (F0 m 2744 ls []) := by
  refine z_aload_n C0 hl 2 rfl dL_law_2744 ?_
  refine z_aload_n C0 hl 4 rfl dL_law_2745 ?_
  obtain ⟨post, hh1, hh2⟩ := lw_failedCommand l g ad h ht hd Wd.2
  refine z_invSH (As := [.ref (ad 0), .ref (ad 408)]) (rest := []) C0 Wd hst hh1 hs_failedCommand zk_1578 rfl hl.1 rfl (Nat.le_of_ble_eq_true rfl) ⟨by omega, by omega⟩ ⟨by omega, by omega⟩ dL_law_2746 (fun k M1 F1 H locs hk hp Wd => ?_)
  refine z_istore C0 hl [(6, .int (zI k)), (5, .int (zI i)), (0, .ref b), (1, .ref (ad 0)), (2, .ref (ad 398)), (3, .ref (ad 408)), (4, .ref (ad 409))] (by decide) rfl dL_law_2749 (fun ls hl => ?_)
  refine z_aload_n C0 hl 4 rfl dL_law_2751 ?_
  obtain ⟨pm, hm1, hm2⟩ := hh2 k M1 F1 hp Wd.2
  refine z_invAi (As := []) (rest := []) C0 Wd hm1 hm2 kv_X12_failedCommand zN398 (zE_9 zK398) rfl zk_2059 rfl hl.1 rfl (Nat.le_of_ble_eq_true rfl) ⟨by omega, by omega⟩ ⟨by omega, by omega⟩ dL_law_2752 (fun bb M2 F2 H locs hbz e8 e9 hcr Wd => ?_)
  refine z_istore C0 hl [(7, .int (zI bb)), (6, .int (zI k)), (5, .int (zI i)), (0, .ref b), (1, .ref (ad 0)), (2, .ref (ad 398)), (3, .ref (ad 408)), (4, .ref (ad 409))] (by decide) rfl dL_law_2755 (fun ls hl => ?_)
  refine z_aload_n C0 hl 5 rfl dL_law_2757 ?_
  refine z_invVi (As := []) (rest := []) C0 Wd (ct_X12_thrown l g ad M2 F2) kv_X12_thrown zN398 (zE_9 zK398) rfl zk_1670 rfl hl.1 rfl (Nat.le_of_ble_eq_true rfl) ⟨by omega, by omega⟩ ⟨by omega, by omega⟩ dL_law_2758 (fun r3 M3 F3 H locs hr3 hp3 Wd => ?_)
  obtain ⟨rfl, rfl, rfl⟩ := hp3
  refine z_iload C0 hl 1 rfl dL_law_2761 ?_
  refine z_icmp_eq C0 (tgt := 2768) hr3 hk dL_law_2763 (by decide) (fun _ => ?_) (fun c9 => absurd e8 c9)
  refine z_iload C0 hl 1 rfl dL_law_2768 ?_
  refine z_if_ne C0 (tgt := 2785) hk dL_law_2770 (by decide) (fun k0 => ?_) (fun k0 => ?_)
  · skip
    refine z_goto C0 (tgt := 2902) dL_law_2785 (by decide) ?_
    exact kk M2 F2 H locs ls _ _ (zCR_up hcr (by omega) (by omega)) Wd (lv_sub hl [2, 3, 4, 5, 6, 7] rfl) (by omega) (by omega)
  · skip
    have e9 := e9 k0
    refine z_aload_n C0 hl 6 rfl dL_law_2773 ?_
    refine z_iconst C0 dL_law_2774 ?_
    refine z_lald C0 Wd zN408 zK408 zL408 (by decide) (by decide) (by decide) dL_law_2775 ?_
    refine z_iload C0 hl 0 rfl dL_law_2776 ?_
    refine z_i2l C0 hbz dL_law_2778 ?_
    refine z_lcmpE C0 e9 dL_law_2779 ?_
    refine z_if_eq C0 (tgt := 2785) (zR_mk (by decide) (by decide)) dL_law_2780 (by decide) (fun _ => ?_) (fun h9 => absurd rfl h9)
    refine z_goto C0 (tgt := 2902) dL_law_2785 (by decide) ?_
    exact kk M2 F2 H locs ls _ _ (zCR_up hcr (by omega) (by omega)) Wd (lv_sub hl [2, 3, 4, 5, 6, 7] rfl) (by omega) (by omega)
set_option maxHeartbeats 4000000 in
set_option maxRecDepth 100000 in
theorem cs_48 {g : zG} {ad : Int → Nat} {p : Program} {l : Launch} {e : Env} {R : Room} {s : State} {m : MethodId} {below : List Frame} {meth : Method} {c : Code} {Q : State → Prop} {b L : Nat} {xs : Nat → Int32} {H : Heap} {locs : List Loc} {cells slots : Nat} {ls : Array Slot} {M F : zMem} {t d i : Int} (C0 : zC g (fun q => s.heap.size ≤ q) p s m #[.ref b] c cL_law 9 "DrumWarrenLaw") (hX : va_X b L xs s s.heap) (hbl : b < s.heap.size) (hL : L ≤ 2048) (hst : l.stackTraces = false) (hR : 100 ≤ R.frames ∧ 10000 ≤ R.locals) (hf : cells + 3 ≤ R.cells ∧ slots + 18 ≤ R.slots) (Wd : zW g (fun q => s.heap.size ≤ q) s.heap 410 ad M F H locs) (hl : lv_has ls 9 [(5, .int (zI i)), (0, .ref b), (1, .ref (ad 0)), (2, .ref (ad 398)), (3, .ref (ad 408)), (4, .ref (ad 409))]) (h : zCR t d M F) (ht : t ≤ 50000000) (hd : d ≤ 9000) (i0 : 0 ≤ i) (i4 : i + 4 ≤ (L : Int)) (kk : ∀ (M' F' : zMem) (H1 : Heap) (locs1 : List Loc) (ls1 : Array Slot) (c1 s1 : Nat), zCR (t + 7000) (d + 9) M' F' → zW g (fun q => s.heap.size ≤ q) s.heap 410 ad M' F' H1 locs1 → lv_has ls1 9 [(5, .int (zI i)), (0, .ref b), (1, .ref (ad 0)), (2, .ref (ad 398)), (3, .ref (ad 408)), (4, .ref (ad 409))] → c1 ≤ cells + 3 → s1 ≤ slots + 18 → W p l e R s m #[.ref b] below meth c H1 locs1 c1 s1 Q (F0 m 2902 ls1 [])) : W p l e R s m #[.ref b] below meth c H locs cells slots Q (F0 m 2788 ls []) := by
  refine z_aload_n C0 hl 2 rfl dL_law_2788 ?_
  refine z_aload_n C0 hl 4 rfl dL_law_2789 ?_
  obtain ⟨post, hh1, hh2⟩ := lw_undo l g ad h ht hd Wd.2
  refine z_invSH (As := [.ref (ad 0), .ref (ad 408)]) (rest := []) C0 Wd hst hh1 hs_undo zk_1586 rfl hl.1 rfl (Nat.le_of_ble_eq_true rfl) ⟨by omega, by omega⟩ ⟨by omega, by omega⟩ dL_law_2790 (fun k M1 F1 H locs hk hp Wd => ?_)
  refine z_istore C0 hl [(6, .int (zI k)), (5, .int (zI i)), (0, .ref b), (1, .ref (ad 0)), (2, .ref (ad 398)), (3, .ref (ad 408)), (4, .ref (ad 409))] (by decide) rfl dL_law_2793 (fun ls hl => ?_)
  refine z_aload_n C0 hl 4 rfl dL_law_2795 ?_
  obtain ⟨pm, hm1, hm2⟩ := hh2 k M1 F1 hp Wd.2
  refine z_invAi (As := []) (rest := []) C0 Wd hm1 hm2 kv_X12_undo zN398 (zE_9 zK398) rfl zk_2063 rfl hl.1 rfl (Nat.le_of_ble_eq_true rfl) ⟨by omega, by omega⟩ ⟨by omega, by omega⟩ dL_law_2796 (fun bb M2 F2 H locs hbz e8 e9 hcr Wd => ?_)
  refine z_istore C0 hl [(7, .int (zI bb)), (6, .int (zI k)), (5, .int (zI i)), (0, .ref b), (1, .ref (ad 0)), (2, .ref (ad 398)), (3, .ref (ad 408)), (4, .ref (ad 409))] (by decide) rfl dL_law_2799 (fun ls hl => ?_)
  refine z_aload_n C0 hl 5 rfl dL_law_2801 ?_
  refine z_invVi (As := []) (rest := []) C0 Wd (ct_X12_thrown l g ad M2 F2) kv_X12_thrown zN398 (zE_9 zK398) rfl zk_1670 rfl hl.1 rfl (Nat.le_of_ble_eq_true rfl) ⟨by omega, by omega⟩ ⟨by omega, by omega⟩ dL_law_2802 (fun r3 M3 F3 H locs hr3 hp3 Wd => ?_)
  obtain ⟨rfl, rfl, rfl⟩ := hp3
  refine z_iload C0 hl 1 rfl dL_law_2805 ?_
  refine z_icmp_eq C0 (tgt := 2812) hr3 hk dL_law_2807 (by decide) (fun _ => ?_) (fun c9 => absurd e8 c9)
  refine z_iload C0 hl 1 rfl dL_law_2812 ?_
  refine z_if_ne C0 (tgt := 2829) hk dL_law_2814 (by decide) (fun k0 => ?_) (fun k0 => ?_)
  · skip
    refine z_goto C0 (tgt := 2902) dL_law_2829 (by decide) ?_
    exact kk M2 F2 H locs ls _ _ (zCR_up hcr (by omega) (by omega)) Wd (lv_sub hl [2, 3, 4, 5, 6, 7] rfl) (by omega) (by omega)
  · skip
    have e9 := e9 k0
    refine z_aload_n C0 hl 6 rfl dL_law_2817 ?_
    refine z_iconst C0 dL_law_2818 ?_
    refine z_lald C0 Wd zN408 zK408 zL408 (by decide) (by decide) (by decide) dL_law_2819 ?_
    refine z_iload C0 hl 0 rfl dL_law_2820 ?_
    refine z_i2l C0 hbz dL_law_2822 ?_
    refine z_lcmpE C0 e9 dL_law_2823 ?_
    refine z_if_eq C0 (tgt := 2829) (zR_mk (by decide) (by decide)) dL_law_2824 (by decide) (fun _ => ?_) (fun h9 => absurd rfl h9)
    refine z_goto C0 (tgt := 2902) dL_law_2829 (by decide) ?_
    exact kk M2 F2 H locs ls _ _ (zCR_up hcr (by omega) (by omega)) Wd (lv_sub hl [2, 3, 4, 5, 6, 7] rfl) (by omega) (by omega)
set_option maxHeartbeats 4000000 in
set_option maxRecDepth 100000 in
theorem cs_49 {g : zG} {ad : Int → Nat} {p : Program} {l : Launch} {e : Env} {R : Room} {s : State} {m : MethodId} {below : List Frame} {meth : Method} {c : Code} {Q : State → Prop} {b L : Nat} {xs : Nat → Int32} {H : Heap} {locs : List Loc} {cells slots : Nat} {ls : Array Slot} {M F : zMem} {t d i : Int} (C0 : zC g (fun q => s.heap.size ≤ q) p s m #[.ref b] c cL_law 9 "DrumWarrenLaw") (hX : va_X b L xs s s.heap) (hbl : b < s.heap.size) (hL : L ≤ 2048) (hst : l.stackTraces = false) (hR : 100 ≤ R.frames ∧ 10000 ≤ R.locals) (hf : cells + 3 ≤ R.cells ∧ slots + 18 ≤ R.slots) (Wd : zW g (fun q => s.heap.size ≤ q) s.heap 410 ad M F H locs) (hl : lv_has ls 9 [(5, .int (zI i)), (0, .ref b), (1, .ref (ad 0)), (2, .ref (ad 398)), (3, .ref (ad 408)), (4, .ref (ad 409))]) (h : zCR t d M F) (ht : t ≤ 50000000) (hd : d ≤ 9000) (i0 : 0 ≤ i) (i4 : i + 4 ≤ (L : Int)) (kk : ∀ (M' F' : zMem) (H1 : Heap) (locs1 : List Loc) (ls1 : Array Slot) (c1 s1 : Nat), zCR (t + 7000) (d + 9) M' F' → zW g (fun q => s.heap.size ≤ q) s.heap 410 ad M' F' H1 locs1 → lv_has ls1 9 [(5, .int (zI i)), (0, .ref b), (1, .ref (ad 0)), (2, .ref (ad 398)), (3, .ref (ad 408)), (4, .ref (ad 409))] → c1 ≤ cells + 3 → s1 ≤ slots + 18 → W p l e R s m #[.ref b] below meth c H1 locs1 c1 s1 Q (F0 m 2902 ls1 [])) : W p l e R s m #[.ref b] below meth c H locs cells slots Q (F0 m 2832 ls []) := by
  refine z_aload_n C0 hl 2 rfl dL_law_2832 ?_
  obtain ⟨post, hh1, hh2⟩ := lp_undoCount l g ad h ht hd Wd.2
  refine z_invVi (As := []) (rest := []) C0 Wd hh1 kv_X11_undoCount zN0 (zE_8 zK0) rfl zk_500 rfl hl.1 rfl (Nat.le_of_ble_eq_true rfl) ⟨by omega, by omega⟩ ⟨by omega, by omega⟩ dL_law_2833 (fun k M1 F1 H locs hk hp Wd => ?_)
  refine z_aload_n C0 hl 3 rfl dL_law_2836 ?_
  obtain ⟨pm, hm1, hm2⟩ := hh2 k M1 F1 hp Wd.2
  refine z_invVi (As := []) (rest := [.int (zI k)]) C0 Wd hm1 kv_X12_undoCount zN398 (zE_9 zK398) rfl zk_2067 rfl hl.1 rfl (Nat.le_of_ble_eq_true rfl) ⟨by omega, by omega⟩ ⟨by omega, by omega⟩ dL_law_2837 (fun bb M2 F2 H locs hbz hp2 Wd => ?_)
  obtain ⟨e9, hcr⟩ := hm2 bb M2 F2 hp2
  refine z_icmp_eq C0 (tgt := 2902) hk hbz dL_law_2840 (by decide) (fun _ => ?_) (fun c9 => absurd e9.symm c9)
  exact kk M2 F2 H locs ls _ _ (zCR_up hcr (by omega) (by omega)) Wd (lv_sub hl [0, 1, 2, 3, 4, 5] rfl) (by omega) (by omega)
set_option maxHeartbeats 4000000 in
set_option maxRecDepth 100000 in
theorem cs_50 {g : zG} {ad : Int → Nat} {p : Program} {l : Launch} {e : Env} {R : Room} {s : State} {m : MethodId} {below : List Frame} {meth : Method} {c : Code} {Q : State → Prop} {b L : Nat} {xs : Nat → Int32} {H : Heap} {locs : List Loc} {cells slots : Nat} {ls : Array Slot} {M F : zMem} {t d i : Int} (C0 : zC g (fun q => s.heap.size ≤ q) p s m #[.ref b] c cL_law 9 "DrumWarrenLaw") (hX : va_X b L xs s s.heap) (hbl : b < s.heap.size) (hL : L ≤ 2048) (hst : l.stackTraces = false) (hR : 100 ≤ R.frames ∧ 10000 ≤ R.locals) (hf : cells + 3 ≤ R.cells ∧ slots + 18 ≤ R.slots) (Wd : zW g (fun q => s.heap.size ≤ q) s.heap 410 ad M F H locs) (hl : lv_has ls 9 [(5, .int (zI i)), (0, .ref b), (1, .ref (ad 0)), (2, .ref (ad 398)), (3, .ref (ad 408)), (4, .ref (ad 409))]) (h : zCR t d M F) (ht : t ≤ 50000000) (hd : d ≤ 9000) (i0 : 0 ≤ i) (i4 : i + 4 ≤ (L : Int)) (kk : ∀ (M' F' : zMem) (H1 : Heap) (locs1 : List Loc) (ls1 : Array Slot) (c1 s1 : Nat), zCR (t + 7000) (d + 9) M' F' → zW g (fun q => s.heap.size ≤ q) s.heap 410 ad M' F' H1 locs1 → lv_has ls1 9 [(5, .int (zI i)), (0, .ref b), (1, .ref (ad 0)), (2, .ref (ad 398)), (3, .ref (ad 408)), (4, .ref (ad 409))] → c1 ≤ cells + 3 → s1 ≤ slots + 18 → W p l e R s m #[.ref b] below meth c H1 locs1 c1 s1 Q (F0 m 2902 ls1 [])) : W p l e R s m #[.ref b] below meth c H locs cells slots Q (F0 m 2845 ls []) := by
  refine z_aload_n C0 hl 2 rfl dL_law_2845 ?_
  obtain ⟨post, hh1, hh2⟩ := lp_save l g ad h ht hd Wd.2
  refine z_invVi (As := []) (rest := []) C0 Wd hh1 kv_X11_save zN0 (zE_8 zK0) rfl zk_504 rfl hl.1 rfl (Nat.le_of_ble_eq_true rfl) ⟨by omega, by omega⟩ ⟨by omega, by omega⟩ dL_law_2846 (fun k M1 F1 H locs hk hp Wd => ?_)
  refine z_aload_n C0 hl 3 rfl dL_law_2849 ?_
  obtain ⟨pm, hm1, hm2⟩ := hh2 k M1 F1 hp Wd.2
  refine z_invVi (As := []) (rest := [.int (zI k)]) C0 Wd hm1 kv_X12_save zN398 (zE_9 zK398) rfl zk_2071 rfl hl.1 rfl (Nat.le_of_ble_eq_true rfl) ⟨by omega, by omega⟩ ⟨by omega, by omega⟩ dL_law_2850 (fun bb M2 F2 H locs hbz hp2 Wd => ?_)
  obtain ⟨e9, hcr⟩ := hm2 bb M2 F2 hp2
  refine z_icmp_eq C0 (tgt := 2902) hk hbz dL_law_2853 (by decide) (fun _ => ?_) (fun c9 => absurd e9.symm c9)
  exact kk M2 F2 H locs ls _ _ (zCR_up hcr (by omega) (by omega)) Wd (lv_sub hl [0, 1, 2, 3, 4, 5] rfl) (by omega) (by omega)
set_option maxHeartbeats 4000000 in
set_option maxRecDepth 100000 in
theorem cs_51 {g : zG} {ad : Int → Nat} {p : Program} {l : Launch} {e : Env} {R : Room} {s : State} {m : MethodId} {below : List Frame} {meth : Method} {c : Code} {Q : State → Prop} {b L : Nat} {xs : Nat → Int32} {H : Heap} {locs : List Loc} {cells slots : Nat} {ls : Array Slot} {M F : zMem} {t d i : Int} (C0 : zC g (fun q => s.heap.size ≤ q) p s m #[.ref b] c cL_law 9 "DrumWarrenLaw") (hX : va_X b L xs s s.heap) (hbl : b < s.heap.size) (hL : L ≤ 2048) (hst : l.stackTraces = false) (hR : 100 ≤ R.frames ∧ 10000 ≤ R.locals) (hf : cells + 3 ≤ R.cells ∧ slots + 18 ≤ R.slots) (Wd : zW g (fun q => s.heap.size ≤ q) s.heap 410 ad M F H locs) (hl : lv_has ls 9 [(5, .int (zI i)), (0, .ref b), (1, .ref (ad 0)), (2, .ref (ad 398)), (3, .ref (ad 408)), (4, .ref (ad 409))]) (h : zCR t d M F) (ht : t ≤ 50000000) (hd : d ≤ 9000) (i0 : 0 ≤ i) (i4 : i + 4 ≤ (L : Int)) (kk : ∀ (M' F' : zMem) (H1 : Heap) (locs1 : List Loc) (ls1 : Array Slot) (c1 s1 : Nat), zCR (t + 7000) (d + 9) M' F' → zW g (fun q => s.heap.size ≤ q) s.heap 410 ad M' F' H1 locs1 → lv_has ls1 9 [(5, .int (zI i)), (0, .ref b), (1, .ref (ad 0)), (2, .ref (ad 398)), (3, .ref (ad 408)), (4, .ref (ad 409))] → c1 ≤ cells + 3 → s1 ≤ slots + 18 → W p l e R s m #[.ref b] below meth c H1 locs1 c1 s1 Q (F0 m 2902 ls1 [])) : W p l e R s m #[.ref b] below meth c H locs cells slots Q (F0 m 2858 ls []) := by
  refine z_aload_n C0 hl 2 rfl dL_law_2858 ?_
  refine z_aload_n C0 hl 4 rfl dL_law_2859 ?_
  obtain ⟨post, hh1, hh2⟩ := lw_restore l g ad h ht hd Wd.2
  refine z_invSH (As := [.ref (ad 0), .ref (ad 408)]) (rest := []) C0 Wd hst hh1 hs_restore zk_1598 rfl hl.1 rfl (Nat.le_of_ble_eq_true rfl) ⟨by omega, by omega⟩ ⟨by omega, by omega⟩ dL_law_2860 (fun k M1 F1 H locs hk hp Wd => ?_)
  refine z_istore C0 hl [(6, .int (zI k)), (5, .int (zI i)), (0, .ref b), (1, .ref (ad 0)), (2, .ref (ad 398)), (3, .ref (ad 408)), (4, .ref (ad 409))] (by decide) rfl dL_law_2863 (fun ls hl => ?_)
  refine z_aload_n C0 hl 4 rfl dL_law_2865 ?_
  obtain ⟨pm, hm1, hm2⟩ := hh2 k M1 F1 hp Wd.2
  refine z_invAi (As := []) (rest := []) C0 Wd hm1 hm2 kv_X12_restore zN398 (zE_9 zK398) rfl zk_2075 rfl hl.1 rfl (Nat.le_of_ble_eq_true rfl) ⟨by omega, by omega⟩ ⟨by omega, by omega⟩ dL_law_2866 (fun bb M2 F2 H locs hbz e8 e9 hcr Wd => ?_)
  refine z_istore C0 hl [(7, .int (zI bb)), (6, .int (zI k)), (5, .int (zI i)), (0, .ref b), (1, .ref (ad 0)), (2, .ref (ad 398)), (3, .ref (ad 408)), (4, .ref (ad 409))] (by decide) rfl dL_law_2869 (fun ls hl => ?_)
  refine z_aload_n C0 hl 5 rfl dL_law_2871 ?_
  refine z_invVi (As := []) (rest := []) C0 Wd (ct_X12_thrown l g ad M2 F2) kv_X12_thrown zN398 (zE_9 zK398) rfl zk_1670 rfl hl.1 rfl (Nat.le_of_ble_eq_true rfl) ⟨by omega, by omega⟩ ⟨by omega, by omega⟩ dL_law_2872 (fun r3 M3 F3 H locs hr3 hp3 Wd => ?_)
  obtain ⟨rfl, rfl, rfl⟩ := hp3
  refine z_iload C0 hl 1 rfl dL_law_2875 ?_
  refine z_icmp_eq C0 (tgt := 2882) hr3 hk dL_law_2877 (by decide) (fun _ => ?_) (fun c9 => absurd e8 c9)
  refine z_iload C0 hl 1 rfl dL_law_2882 ?_
  refine z_if_ne C0 (tgt := 2899) hk dL_law_2884 (by decide) (fun k0 => ?_) (fun k0 => ?_)
  · skip
    refine z_goto C0 (tgt := 2902) dL_law_2899 (by decide) ?_
    exact kk M2 F2 H locs ls _ _ (zCR_up hcr (by omega) (by omega)) Wd (lv_sub hl [2, 3, 4, 5, 6, 7] rfl) (by omega) (by omega)
  · skip
    have e9 := e9 k0
    refine z_aload_n C0 hl 6 rfl dL_law_2887 ?_
    refine z_iconst C0 dL_law_2888 ?_
    refine z_lald C0 Wd zN408 zK408 zL408 (by decide) (by decide) (by decide) dL_law_2889 ?_
    refine z_iload C0 hl 0 rfl dL_law_2890 ?_
    refine z_i2l C0 hbz dL_law_2892 ?_
    refine z_lcmpE C0 e9 dL_law_2893 ?_
    refine z_if_eq C0 (tgt := 2899) (zR_mk (by decide) (by decide)) dL_law_2894 (by decide) (fun _ => ?_) (fun h9 => absurd rfl h9)
    refine z_goto C0 (tgt := 2902) dL_law_2899 (by decide) ?_
    exact kk M2 F2 H locs ls _ _ (zCR_up hcr (by omega) (by omega)) Wd (lv_sub hl [2, 3, 4, 5, 6, 7] rfl) (by omega) (by omega)
