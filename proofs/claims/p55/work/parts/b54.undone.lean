/-! undoing -/
abbrev zch (L : List Int) : Prop := ∀ c ∈ L, 0 ≤ c ∧ c < 128
theorem zch_0 : zch [] := fun _ h => nomatch h
theorem zch_a {A B : List Int} (h1 : zch A) (h2 : zch B) : zch (A ++ B) := fun c h => (List.mem_append.mp h).elim (h1 c) (h2 c)
theorem zch_d {x : Int} (h : 0 ≤ x ∧ x < 10000) : zch (zdgs x) := fun c hc => by have := zdgs_b h.1 h.2 c hc; omega
set_option maxHeartbeats 8000000 in
set_option maxRecDepth 100000 in
theorem lw_undone (l : Launch) (g : zG) (zX : va_W) (ad : Int → Nat) (M F : zMem) (b L : Nat) (xs : Nat → Int32) (hL9 : L ≤ 2048) {t many : Int} {V : Int → Int} {U : Int → Int → Int} (hL : zLw t many V U M F) (ht : t ≤ 900) (hst : l.stackTraces = false) : zMv l yL_undone cL_undone 8 (some .boolean) 15 36254 218143 g (0, 398, zX) ad (zSc b L xs) [.ref b, .ref (ad 0)] M F (zPi (fun k _ _ => k = 1)) := by
  refine zMv.of "DrumWarrenLaw" rfl (by decide +kernel) (Nat.le_of_ble_eq_true rfl) (fun {p e s m args below meth c ls} C0 Wd hl hret hlk hin hXk hX => ?_)
  have hl : lv_has ls 8 [(0, .ref b), (1, .ref (ad 0))] := hl
  refine z_bipush C0 dL_undone_0 (by decide) ?_
  refine dl_new C0 Wd ⟨by show _ ≤ 36254; omega, by show _ ≤ 218143; omega⟩ dL_undone_2 (fun lk H locs Wd => ?_)
  refine z_astore_n C0 hl [(2, .ref lk), (0, .ref b), (1, .ref (ad 0))] (by decide) rfl dL_undone_4 (fun ls hl => ?_)
  refine z_iconst C0 dL_undone_5 ?_
  refine z_istore_n C0 hl [(3, .int (zI 0)), (2, .ref lk), (0, .ref b), (1, .ref (ad 0))] (by decide) rfl dL_undone_6 (fun ls hl => ?_)
  refine z_iconst C0 dL_undone_7 ?_
  refine z_istore C0 hl [(4, .int (zI 0)), (3, .int (zI 0)), (2, .ref lk), (0, .ref b), (1, .ref (ad 0))] (by decide) rfl dL_undone_8 (fun ls hl => ?_)
  have hb10 : 7 ≤ 7 := by omega
  have aft10 : ∀ (k10 : Nat) (hk10 : (k10 : Int) ≤ 7) (t10 : Int) (m10 : Int) (V10 : Int → Int) (U10 : Int → Int → Int) (D : Int → Int) (dn : Int) (M9010 F9010 : zMem) (hL9010 : zLw t10 m10 V10 U10 M9010 F9010) (ht10 : 0 ≤ t10 ∧ t10 ≤ 900 + 7000 * (k10 : Int)) (hdn : 0 ≤ dn ∧ dn ≤ (k10 : Int) ∧ dn ≤ m10) (hDi : ∀ i, 0 ≤ i → i < dn → D i = sgV (U10 (dn - 1 - i))) (hx10 : (k10 : Int) = 7) (H : Heap) (locs : List Loc) (ls : Array Slot) (Wd : zW g (zA (0, 398, zX) ad s.heap.size) s.heap (0, 398, ([lcl g lk D] ++ zX)) ad M9010 F9010 H locs) (hl : lv_has ls 8 [(0, .ref b), (1, .ref (ad 0)), (2, .ref lk), (3, .int (zI dn)), (4, .int (zI (k10 : Int)))]), W p l e (zrm 15 36254 218143) s m args below meth c H locs (24277) (146281) (zMQ below g (0, 398, zX) ad (zPi (fun k _ _ => k = 1)) args s 36254 218143) (F0 m 421 ls []) := by
    intro k10 hk10 t10 m10 V10 U10 D dn M9010 F9010 hL9010 ht10 hdn hDi hx10 H locs ls Wd hl
    replace hl : lv_has ls 8 [(0, .ref b), (1, .ref (ad 0)), (2, .ref lk), (3, .int (zI dn))] := lv_sub hl [0, 1, 2, 3] rfl
    refine z_aload_n C0 hl 1 rfl dL_undone_421 ?_
    refine z_invVi (As := []) (rest := []) C0 Wd (hv_undoCount l g ([lcl g lk D] ++ zX) ad M9010 F9010 hL9010) kv_X11_undoCount zN0 (zE_8 zK0) rfl zk_1606 rfl hl.1 rfl (Nat.le_of_ble_eq_true rfl) (by decide) ⟨by show _ ≤ 36254; omega, by show _ ≤ 218143; omega⟩ dL_undone_422 (fun k1 M1 F1 H locs hr1 hp1 Wd => ?_)
    obtain ⟨hk1, hQ1⟩ := hp1
    refine z_top (congrArg zI hk1) ?_
    rw [hk1] at hr1
    clear hk1
    have hL1 := hQ1.1
    refine z_istore C0 hl [(4, .int (zI (m10))), (0, .ref b), (1, .ref (ad 0)), (2, .ref lk), (3, .int (zI dn))] (by decide) rfl dL_undone_425 (fun ls hl => ?_)
    refine z_iload_n C0 hl 4 rfl dL_undone_427 ?_
    refine z_iconst C0 dL_undone_428 ?_
    refine z_isub C0 dL_undone_429 ?_
    refine z_istore C0 hl [(5, .int (zI (dn - 1))), (4, .int (zI (m10))), (0, .ref b), (1, .ref (ad 0)), (2, .ref lk), (3, .int (zI dn))] (by decide) rfl dL_undone_430 (fun ls hl => ?_)
    have hb432 : dn ≤ 7 := by omega
    have aft432 : ∀ (k432 : Nat) (hk432 : (k432 : Int) ≤ dn) (m432 : Int) (V432 : Int → Int) (U432 : Int → Int → Int) (lf : Int) (ix : Int) (M9432 F9432 : zMem) (hL9432 : zLw t10 m432 V432 U432 M9432 F9432) (hlf : lf = m432) (hix : ix = dn - 1 - (k432 : Int)) (hmk : dn - (k432 : Int) ≤ m432) (hU : ∀ i, 0 ≤ i → i < dn - (k432 : Int) → D i = sgV (U432 (dn - (k432 : Int) - 1 - i))) (hx432 : (k432 : Int) = dn) (H : Heap) (locs : List Loc) (ls : Array Slot) (Wd : zW g (zA (0, 398, zX) ad s.heap.size) s.heap (0, 398, ([lcl g lk D] ++ zX)) ad M9432 F9432 H locs) (hl : lv_has ls 8 [(0, .ref b), (1, .ref (ad 0)), (2, .ref lk), (3, .int (zI dn)), (4, .int (zI lf)), (5, .int (zI ix))]), W p l e (zrm 15 36254 218143) s m args below meth c H locs (36254) (218143) (zMQ below g (0, 398, zX) ad (zPi (fun k _ _ => k = 1)) args s 36254 218143) (F0 m 469 ls []) := by
      intro k432 hk432 m432 V432 U432 lf ix M9432 F9432 hL9432 hlf hix hmk hU hx432 H locs ls Wd hl
      replace hl : lv_has ls 8 [(0, .ref b), (1, .ref (ad 0))] := lv_sub hl [0, 1] rfl
      refine z_iconst C0 dL_undone_469 ?_
      replace Wd := zW_sub (X := zX) Wd ((List.Sublist.refl _).trans (List.sublist_append_right [lcl g lk D] _))
      refine W.widen (k := 36254) (n := 218143) (by omega) (by omega) ?_
      exact z_zret C0 Wd hret hlk (by first | exact Or.inl rfl | exact Or.inr rfl) rfl dL_undone_470
    have lp432 : ∀ (d432 k432 : Nat) (hk432 : (k432 : Int) + d432 = dn) (m432 : Int) (V432 : Int → Int) (U432 : Int → Int → Int) (lf : Int) (ix : Int) (M9432 F9432 : zMem) (hL9432 : zLw t10 m432 V432 U432 M9432 F9432) (hlf : lf = m432) (hix : ix = dn - 1 - (k432 : Int)) (hmk : dn - (k432 : Int) ≤ m432) (hU : ∀ i, 0 ≤ i → i < dn - (k432 : Int) → D i = sgV (U432 (dn - (k432 : Int) - 1 - i))) (H : Heap) (locs : List Loc) (ls : Array Slot) (Wd : zW g (zA (0, 398, zX) ad s.heap.size) s.heap (0, 398, ([lcl g lk D] ++ zX)) ad M9432 F9432 H locs) (hl : lv_has ls 8 [(0, .ref b), (1, .ref (ad 0)), (2, .ref lk), (3, .int (zI dn)), (4, .int (zI lf)), (5, .int (zI ix))]), W p l e (zrm 15 36254 218143) s m args below meth c H locs (1711 * k432 + 24277) (10266 * k432 + 146281) (zMQ below g (0, 398, zX) ad (zPi (fun k _ _ => k = 1)) args s 36254 218143) (F0 m 432 ls []) := by
      intro d432
      induction d432 with
      | zero =>
        intro k432 hk432 m432 V432 U432 lf ix M9432 F9432 hL9432 hlf hix hmk hU H locs ls Wd hl
        have hm8 := hL9432.hi.2.2.1
        refine z_iload C0 hl 5 rfl dL_undone_432 ?_
        refine z_if_lt C0 (tgt := 469) (zR_mk (by omega) (by omega)) dL_undone_434 (by decide) (fun c2 => ?_) (fun c2 => ?_)
        · skip
          refine W.widen (k := (36254)) (n := (218143)) (by omega) (by omega) ?_
          exact aft432 k432 (by omega) m432 V432 U432 lf ix M9432 F9432 hL9432 (by first | assumption | omega) (by first | assumption | omega) (by first | assumption | omega) (by first | assumption | omega) (by first | assumption | omega) _ _ _ Wd (lv_sub hl [0, 1, 2, 3, 4, 5] rfl)
        · skip
          exfalso; omega
      | succ d432 ih432 =>
        intro k432 hk432 m432 V432 U432 lf ix M9432 F9432 hL9432 hlf hix hmk hU H locs ls Wd hl
        have hm8 := hL9432.hi.2.2.1
        refine z_iload C0 hl 5 rfl dL_undone_432 ?_
        refine z_if_lt C0 (tgt := 469) (zR_mk (by omega) (by omega)) dL_undone_434 (by decide) (fun c3 => ?_) (fun c3 => ?_)
        · skip
          exfalso; omega
        · skip
          refine z_iinc C0 hl 4 (t := lf) (u := (lf - 1)) rfl (by omega) [(4, .int (zI (lf - 1))), (0, .ref b), (1, .ref (ad 0)), (2, .ref lk), (3, .int (zI dn)), (5, .int (zI ix))] (by decide) rfl dL_undone_437 (fun ls hl => ?_)
          refine z_aload_n C0 hl 2 rfl dL_undone_440 ?_
          refine z_invSH (As := [.ref (ad 0)]) (rest := []) C0 Wd hst (hq_undo l g ([lcl g lk D] ++ zX) ad M9432 F9432 hL9432  (by omega)) hs_undo zk_1610 rfl hl.1 rfl (Nat.le_of_ble_eq_true rfl) (by decide) ⟨by show _ ≤ 36254; omega, by show _ ≤ 218143; omega⟩ dL_undone_441 (fun k4 M4 F4 H locs hr4 hp4 Wd => ?_)
          obtain ⟨rfl, hL4⟩ := hp4
          refine z_iload C0 hl 0 rfl dL_undone_444 ?_
          refine z_icmp_ne C0 (tgt := 461) hr4 (zR_mk (by omega) (by omega)) dL_undone_446 (by decide) (fun h9 => (by exfalso; omega)) (fun c5 => ?_)
          refine z_aload_n C0 hl 2 rfl dL_undone_449 ?_
          refine z_invS (As := [.ref (ad 0)]) (rest := []) C0 Wd (lw_sum l g ([lcl g lk D] ++ zX) ad M4 F4 hL4 (by omega) hst) ks_L_sum zk_1471 rfl hl.1 rfl (Nat.le_of_ble_eq_true rfl) (by decide) ⟨by show _ ≤ 36254; omega, by show _ ≤ 218143; omega⟩ dL_undone_450 (fun v6 M6 F6 H locs hp6 Wd => ?_)
          obtain ⟨rfl, hL6⟩ := hp6
          refine z_aload_n C0 hl 3 rfl dL_undone_453 ?_
          refine z_iload C0 hl 5 rfl dL_undone_454 ?_
          refine dl_ald C0 Wd (by omega) (by omega) dL_undone_456 ?_
          refine z_lcmpE (x := (sgV (U432 0))) (y := (D ix)) C0 (by rw [hU ix (by omega) (by omega), show dn - (k432 : Int) - 1 - ix = 0 by omega]) dL_undone_457 ?_
          refine z_if_eq C0 (tgt := 463) (zR_mk (by decide) (by decide)) dL_undone_458 (by decide) (fun _ => ?_) (fun h => absurd h (by decide))
          refine z_iinc C0 hl 5 (t := ix) (u := (ix - 1)) rfl (by omega) [(5, .int (zI (ix - 1))), (4, .int (zI (lf - 1))), (0, .ref b), (1, .ref (ad 0)), (2, .ref lk), (3, .int (zI dn))] (by decide) rfl dL_undone_463 (fun ls hl => ?_)
          refine z_goto C0 (tgt := 432) dL_undone_466 (by decide) ?_
          refine W.widen (k := (1711 * (k432 + 1) + 24277)) (n := (10266 * (k432 + 1) + 146281)) (by omega) (by omega) ?_
          exact ih432 (k432 + 1) (by omega) (m432 - 1) (U432 0) (fun k => U432 (k + 1)) (lf - 1) (ix - 1) M6 F6 hL6 (by omega) (by omega) (by omega) (fun i i0 i1 => by rw [hU i i0 (by omega)]; exact congrArg (fun z => sgV (U432 z)) (by omega)) _ _ _ Wd (lv_sub hl [2, 3, 4, 5, 1, 0] rfl)
    refine W.widen (k := (1711 * 0 + 24277)) (n := (10266 * 0 + 146281)) (by omega) (by omega) ?_
    exact lp432 (dn).toNat 0 (by omega) m10 V10 U10 (m10) (dn - 1) M1 F1 hL1 rfl (by omega) (by omega) (fun i i0 i1 => by rw [show dn - ((0 : Nat) : Int) - 1 - i = dn - 1 - i by omega]; exact hDi i i0 (by omega)) _ _ _ Wd (lv_sub hl [2, 3, 4, 5, 1, 0] rfl)
  have lp10 : ∀ (d10 k10 : Nat) (hk10 : (k10 : Int) + d10 = 7) (t10 : Int) (m10 : Int) (V10 : Int → Int) (U10 : Int → Int → Int) (D : Int → Int) (dn : Int) (M9010 F9010 : zMem) (hL9010 : zLw t10 m10 V10 U10 M9010 F9010) (ht10 : 0 ≤ t10 ∧ t10 ≤ 900 + 7000 * (k10 : Int)) (hdn : 0 ≤ dn ∧ dn ≤ (k10 : Int) ∧ dn ≤ m10) (hDi : ∀ i, 0 ≤ i → i < dn → D i = sgV (U10 (dn - 1 - i))) (H : Heap) (locs : List Loc) (ls : Array Slot) (Wd : zW g (zA (0, 398, zX) ad s.heap.size) s.heap (0, 398, ([lcl g lk D] ++ zX)) ad M9010 F9010 H locs) (hl : lv_has ls 8 [(0, .ref b), (1, .ref (ad 0)), (2, .ref lk), (3, .int (zI dn)), (4, .int (zI (k10 : Int)))]), W p l e (zrm 15 36254 218143) s m args below meth c H locs (3468 * k10 + 1) (20896 * k10 + 9) (zMQ below g (0, 398, zX) ad (zPi (fun k _ _ => k = 1)) args s 36254 218143) (F0 m 10 ls []) := by
    intro d10
    induction d10 with
    | zero =>
      intro k10 hk10 t10 m10 V10 U10 D dn M9010 F9010 hL9010 ht10 hdn hDi H locs ls Wd hl
      refine z_iload C0 hl 4 rfl dL_undone_10 ?_
      refine z_bipush C0 dL_undone_12 (by decide) ?_
      refine z_icmp_ge C0 (tgt := 421) (zR_mk (by omega) (by omega)) (zR_mk (by decide) (by decide)) dL_undone_14 (by decide) (fun c8 => ?_) (fun c8 => ?_)
      · skip
        refine W.widen (k := (24277)) (n := (146281)) (by omega) (by omega) ?_
        exact aft10 k10 (by omega) t10 m10 V10 U10 D dn M9010 F9010 hL9010 (by first | assumption | omega) (by first | assumption | omega) (by first | assumption | omega) (by first | assumption | omega) _ _ _ Wd (lv_sub hl [0, 1, 2, 3, 4] rfl)
      · skip
        exfalso; omega
    | succ d10 ih10 =>
      intro k10 hk10 t10 m10 V10 U10 D dn M9010 F9010 hL9010 ht10 hdn hDi H locs ls Wd hl
      refine z_iload C0 hl 4 rfl dL_undone_10 ?_
      refine z_bipush C0 dL_undone_12 (by decide) ?_
      refine z_icmp_ge C0 (tgt := 421) (zR_mk (by omega) (by omega)) (zR_mk (by decide) (by decide)) dL_undone_14 (by decide) (fun c9 => ?_) (fun c9 => ?_)
      · skip
        exfalso; omega
      · skip
        refine z_aload_n C0 hl 0 rfl dL_undone_17 ?_
        refine z_bipush C0 dL_undone_18 (by decide) ?_
        refine z_iload C0 hl 4 rfl dL_undone_20 ?_
        refine z_iadd C0 dL_undone_22 ?_
        refine z_invSx (As := [.ref b, .int (zI (23 + (k10 : Int)))]) (rest := []) C0 Wd (lw_cell l g ([lcl g lk D] ++ zX) ad M9010 F9010 b L xs hL9 (23 + (k10 : Int)) ⟨by omega, by omega⟩) ks_L_cell hXk hX zk_370 rfl hl.1 rfl (Nat.le_of_ble_eq_true rfl) (by decide) ⟨by show _ ≤ 36254; omega, by show _ ≤ 218143; omega⟩ dL_undone_23 (z_kki (fun k10 M10 F10 H locs hr10 hp10 Wd => ?_))
        obtain ⟨rfl, he10, hf10⟩ := hp10
        rw [he10, hf10] at Wd
        clear he10 hf10
        refine z_iconst C0 dL_undone_26 ?_
        obtain ⟨v11, hev11, hbv11, hcv11⟩ := zus_1 (zcl xs L (23 + (k10 : Int)))
        refine z_iushr C0 (v := v11) hev11 dL_undone_27 ?_
        refine z_istore C0 hl [(5, .int (zI v11)), (0, .ref b), (1, .ref (ad 0)), (2, .ref lk), (3, .int (zI dn)), (4, .int (zI (k10 : Int)))] (by decide) rfl dL_undone_28 (fun ls hl => ?_)
        refine z_iload C0 hl 0 rfl dL_undone_30 ?_
        refine z_iconst C0 dL_undone_32 ?_
        refine z_iushr C0 (v := (v11 / 16)) (zus_d 4 (by omega) (by omega) ⟨by decide, by decide⟩ rfl) dL_undone_33 ?_
        refine z_istore C0 hl [(6, .int (zI (v11 / 16))), (5, .int (zI v11)), (0, .ref b), (1, .ref (ad 0)), (2, .ref lk), (3, .int (zI dn)), (4, .int (zI (k10 : Int)))] (by decide) rfl dL_undone_34 (fun ls hl => ?_)
        refine z_aload_n C0 hl 4 rfl dL_undone_36 ?_
        refine z_iload_n C0 hl 5 rfl dL_undone_37 ?_
        refine z_aload_n C0 hl 3 rfl dL_undone_38 ?_
        refine z_invS (As := [.ref (ad 0)]) (rest := [.int (zI dn), .ref lk]) C0 Wd (lw_sum l g ([lcl g lk D] ++ zX) ad M9010 F9010 hL9010 (by omega) hst) ks_L_sum zk_1471 rfl hl.1 rfl (Nat.le_of_ble_eq_true rfl) (by decide) ⟨by show _ ≤ 36254; omega, by show _ ≤ 218143; omega⟩ dL_undone_39 (fun v12 M12 F12 H locs hp12 Wd => ?_)
        obtain ⟨rfl, hL12⟩ := hp12
        refine dl_ast C0 Wd (by omega) (by omega) dL_undone_42 (fun H locs Wd => ?_)
        have hD1 : ∀ i, 0 ≤ i → i < dn → (zup D dn (sgV V10)) i = sgV (U10 (dn - 1 - i)) := fun i i0 i1 => by rw [zup_ne (by omega)]; exact hDi i i0 i1
        have hD0 : (zup D dn (sgV V10)) dn = sgV V10 := zup_same _ _ _
        refine z_iload C0 hl 1 rfl dL_undone_43 ?_
        refine z_bipush C0 dL_undone_45 (by decide) ?_
        obtain ⟨v13, hev13, hbv13, hcv13⟩ : ∃ v, v11 % 10 = v ∧ 0 ≤ v ∧ v < 10 := ⟨_, rfl, Int.emod_nonneg _ (by omega), Int.emod_lt_of_pos _ (by omega)⟩
        refine z_irem C0 (v := v13) ⟨⟨by omega, by omega⟩, ⟨by omega, by omega⟩, hev13⟩ dL_undone_47 ?_
        clear hev13
        have jn384 : ∀ (is : Int) (M8384 F8384 : zMem) (hL8384 : zDu t10 m10 V10 U10 is M8384 F8384) (hzis : zR is) (H : Heap) (locs : List Loc) (ls : Array Slot) (Wd : zW g (zA (0, 398, zX) ad s.heap.size) s.heap (0, 398, ([lcl g lk (zup D dn (sgV V10))] ++ zX)) ad M8384 F8384 H locs) (hl : lv_has ls 8 [(0, .ref b), (1, .ref (ad 0)), (2, .ref lk), (3, .int (zI dn)), (4, .int (zI (k10 : Int))), (5, .int (zI v11)), (6, .int (zI (v11 / 16))), (7, .int (zI is))]), W p l e (zrm 15 36254 218143) s m args below meth c H locs (3468 * k10 + 1759) (20896 * k10 + 10645) (zMQ below g (0, 398, zX) ad (zPi (fun k _ _ => k = 1)) args s 36254 218143) (F0 m 384 ls []) := by
          intro is M8384 F8384 hL8384 hzis H locs ls Wd hl
          refine z_iload C0 hl 7 rfl dL_undone_384 ?_
          refine z_if_ge C0 (tgt := 402) hzis dL_undone_386 (by decide) (fun c14 => ?_) (fun c14 => ?_)
          · skip
            obtain ⟨-, W9, hL402⟩ := hL8384.resolve_right (fun q => by have := q.1; omega)
            have hz8 := zm8_ge (many := m10) (d := dn) (by omega) (by omega)
            clear hL8384
            refine z_iload_n C0 hl 3 rfl dL_undone_402 ?_
            refine z_iload C0 hl 7 rfl dL_undone_403 ?_
            refine z_if_ge C0 (tgt := 412) hzis dL_undone_405 (by decide) (fun c15 => ?_) (fun h9 => (by exfalso; omega))
            refine z_iconst C0 dL_undone_412 ?_
            refine z_iadd C0 dL_undone_413 ?_
            refine z_istore_n C0 hl [(3, .int (zI (dn + 1))), (0, .ref b), (1, .ref (ad 0)), (2, .ref lk), (4, .int (zI (k10 : Int))), (5, .int (zI v11)), (6, .int (zI (v11 / 16))), (7, .int (zI is))] (by decide) rfl dL_undone_414 (fun ls hl => ?_)
            refine z_iinc C0 hl 4 (t := (k10 : Int)) (u := ((k10 : Int) + 1)) rfl (by omega) [(4, .int (zI ((k10 : Int) + 1))), (3, .int (zI (dn + 1))), (0, .ref b), (1, .ref (ad 0)), (2, .ref lk), (5, .int (zI v11)), (6, .int (zI (v11 / 16))), (7, .int (zI is))] (by decide) rfl dL_undone_415 (fun ls hl => ?_)
            refine z_goto C0 (tgt := 10) dL_undone_418 (by decide) ?_
            refine W.widen (k := (3468 * (k10 + 1) + 1)) (n := (20896 * (k10 + 1) + 9)) (by omega) (by omega) ?_
            exact ih10 (k10 + 1) (by omega) (t10 + 7000) (zm8 m10) W9 (zcons V10 U10) (zup D dn (sgV V10)) (dn + 1) M8384 F8384 hL402 (by first | assumption | omega) (by first | assumption | omega) (un_old hD1 hD0) _ _ _ Wd (lv_sub hl [2, 3, 4, 1, 0] rfl)
          · skip
            have hL389 := (hL8384.resolve_left (fun q => by have := q.1; omega)).2
            clear hL8384
            refine z_aload_n C0 hl 1 rfl dL_undone_389 ?_
            refine z_invS (As := [.ref (ad 0)]) (rest := []) C0 Wd (lw_sum l g ([lcl g lk (zup D dn (sgV V10))] ++ zX) ad M8384 F8384 hL389 (by omega) hst) ks_L_sum zk_1471 rfl hl.1 rfl (Nat.le_of_ble_eq_true rfl) (by decide) ⟨by show _ ≤ 36254; omega, by show _ ≤ 218143; omega⟩ dL_undone_390 (fun v16 M16 F16 H locs hp16 Wd => ?_)
            obtain ⟨rfl, hL16⟩ := hp16
            refine z_aload_n C0 hl 2 rfl dL_undone_393 ?_
            refine z_iload_n C0 hl 3 rfl dL_undone_394 ?_
            refine dl_ald C0 Wd (by omega) (by omega) dL_undone_395 ?_
            refine z_lcmpE (x := (sgV V10)) (y := ((zup D dn (sgV V10)) dn)) C0 hD0.symm dL_undone_396 ?_
            refine z_if_eq C0 (tgt := 402) (zR_mk (by decide) (by decide)) dL_undone_397 (by decide) (fun _ => ?_) (fun h => absurd h (by decide))
            refine z_iload_n C0 hl 3 rfl dL_undone_402 ?_
            refine z_iload C0 hl 7 rfl dL_undone_403 ?_
            refine z_if_ge C0 (tgt := 412) hzis dL_undone_405 (by decide) (fun h9 => (by exfalso; omega)) (fun c18 => ?_)
            refine z_iconst C0 dL_undone_408 ?_
            refine z_goto C0 (tgt := 413) dL_undone_409 (by decide) ?_
            refine z_iadd C0 dL_undone_413 ?_
            refine z_istore_n C0 hl [(3, .int (zI (dn + 0))), (0, .ref b), (1, .ref (ad 0)), (2, .ref lk), (4, .int (zI (k10 : Int))), (5, .int (zI v11)), (6, .int (zI (v11 / 16))), (7, .int (zI is))] (by decide) rfl dL_undone_414 (fun ls hl => ?_)
            refine z_iinc C0 hl 4 (t := (k10 : Int)) (u := ((k10 : Int) + 1)) rfl (by omega) [(4, .int (zI ((k10 : Int) + 1))), (3, .int (zI (dn + 0))), (0, .ref b), (1, .ref (ad 0)), (2, .ref lk), (5, .int (zI v11)), (6, .int (zI (v11 / 16))), (7, .int (zI is))] (by decide) rfl dL_undone_415 (fun ls hl => ?_)
            refine z_goto C0 (tgt := 10) dL_undone_418 (by decide) ?_
            refine W.widen (k := (3468 * (k10 + 1) + 1)) (n := (20896 * (k10 + 1) + 9)) (by omega) (by omega) ?_
            exact ih10 (k10 + 1) (by omega) t10 m10 V10 U10 (zup D dn (sgV V10)) (dn + 0) M16 F16 hL16 (by first | assumption | omega) (by first | assumption | omega) (fun i i0 i1 => by rw [show dn + 0 - 1 - i = dn - 1 - i by omega]; exact hD1 i i0 (by omega)) _ _ _ Wd (lv_sub hl [2, 3, 4, 1, 0] rfl)
        refine z_table C0 (zR_mk (by omega) (by omega)) dL_undone_48 (by decide) (fun v => if v = 0 then 100 else (if v = 1 then 109 else (if v = 2 then 138 else (if v = 3 then 159 else (if v = 4 then 203 else (if v = 5 then 232 else (if v = 6 then 232 else (if v = 7 then 261 else (if v = 8 then 275 else 289))))))))) (by decide) (fun v hv => by show (if v = 0 then 100 else (if v = 1 then 109 else (if v = 2 then 138 else (if v = 3 then 159 else (if v = 4 then 203 else (if v = 5 then 232 else (if v = 6 then 232 else (if v = 7 then 261 else (if v = 8 then 275 else 289)))))))) : Nat) = 289; rw [if_neg (by omega), if_neg (by omega), if_neg (by omega), if_neg (by omega), if_neg (by omega), if_neg (by omega), if_neg (by omega), if_neg (by omega), if_neg (by omega)]) (by decide) ?_
        refine z_ite (fun t19 => ?_) (fun t19 => ?_)
        · skip
          refine z_aload_n C0 hl 3 rfl dL_undone_100 ?_
          refine z_invSH (As := [.ref (ad 0)]) (rest := []) C0 Wd hst (hq_addChamber l g ([lcl g lk (zup D dn (sgV V10))] ++ zX) ad M12 F12 hL12  ) hs_addChamber zk_374 rfl hl.1 rfl (Nat.le_of_ble_eq_true rfl) (by decide) ⟨by show _ ≤ 36254; omega, by show _ ≤ 218143; omega⟩ dL_undone_101 (fun k20 M20 F20 H locs hr20 hp20 Wd => ?_)
          have hDu20 := du_AC hL12 hp20
          refine z_istore C0 hl [(7, .int (zI k20)), (6, .int (zI (v11 / 16))), (5, .int (zI v11)), (0, .ref b), (1, .ref (ad 0)), (2, .ref lk), (3, .int (zI dn)), (4, .int (zI (k10 : Int)))] (by decide) rfl dL_undone_104 (fun ls hl => ?_)
          refine z_goto C0 (tgt := 384) dL_undone_106 (by decide) ?_
          refine W.widen (k := (3468 * k10 + 1759)) (n := (20896 * k10 + 10645)) (by omega) (by omega) ?_
          exact jn384 k20 M20 F20 hDu20 hr20 _ _ _ Wd (lv_sub hl [3, 4, 5, 6, 7, 2, 1, 0] rfl)
        refine z_ite (fun t21 => ?_) (fun t21 => ?_)
        · skip
          refine z_aload_n C0 hl 3 rfl dL_undone_109 ?_
          refine z_iload C0 hl 0 rfl dL_undone_110 ?_
          refine z_bipush C0 dL_undone_112 (by decide) ?_
          obtain ⟨v22, hev22, hbv22, hcv22⟩ : ∃ v, (v11 / 16) % 8 = v ∧ 0 ≤ v ∧ v < 8 := ⟨_, rfl, Int.emod_nonneg _ (by omega), Int.emod_lt_of_pos _ (by omega)⟩
          refine z_irem C0 (v := v22) ⟨⟨by omega, by omega⟩, ⟨by omega, by omega⟩, hev22⟩ dL_undone_114 ?_
          clear hev22
          refine z_iload C0 hl 0 rfl dL_undone_115 ?_
          refine z_iconst C0 dL_undone_117 ?_
          refine z_iushr C0 (v := ((v11 / 16) / 8)) (zus_d 3 (by omega) (by omega) ⟨by decide, by decide⟩ rfl) dL_undone_118 ?_
          refine z_bipush C0 dL_undone_119 (by decide) ?_
          obtain ⟨v23, hev23, hbv23, hcv23⟩ : ∃ v, ((v11 / 16) / 8) % 8 = v ∧ 0 ≤ v ∧ v < 8 := ⟨_, rfl, Int.emod_nonneg _ (by omega), Int.emod_lt_of_pos _ (by omega)⟩
          refine z_irem C0 (v := v23) ⟨⟨by omega, by omega⟩, ⟨by omega, by omega⟩, hev23⟩ dL_undone_121 ?_
          clear hev23
          refine z_iload C0 hl 0 rfl dL_undone_122 ?_
          refine z_bipush C0 dL_undone_124 (by decide) ?_
          refine z_iushr C0 (v := ((v11 / 16) / 64)) (zus_d 6 (by omega) (by omega) ⟨by decide, by decide⟩ rfl) dL_undone_126 ?_
          refine z_bipush C0 dL_undone_127 (by decide) ?_
          obtain ⟨v24, hev24, hbv24, hcv24⟩ : ∃ v, ((v11 / 16) / 64) % 11 = v ∧ 0 ≤ v ∧ v < 11 := ⟨_, rfl, Int.emod_nonneg _ (by omega), Int.emod_lt_of_pos _ (by omega)⟩
          refine z_irem C0 (v := v24) ⟨⟨by omega, by omega⟩, ⟨by omega, by omega⟩, hev24⟩ dL_undone_129 ?_
          clear hev24
          refine z_invSH (As := [.ref (ad 0), .int (zI v22), .int (zI v23), .int (zI v24)]) (rest := []) C0 Wd hst (hq_addTunnel l g ([lcl g lk (zup D dn (sgV V10))] ++ zX) ad M12 F12 hL12 v22 (zR_mk (by omega) (by omega)) v23 (zR_mk (by omega) (by omega)) v24 (zR_mk (by omega) (by omega)) ) hs_addTunnel zk_557 rfl hl.1 rfl (Nat.le_of_ble_eq_true rfl) (by decide) ⟨by show _ ≤ 36254; omega, by show _ ≤ 218143; omega⟩ dL_undone_130 (fun k25 M25 F25 H locs hr25 hp25 Wd => ?_)
          have hDu25 := du_AT hL12 hp25
          refine z_istore C0 hl [(7, .int (zI k25)), (6, .int (zI (v11 / 16))), (5, .int (zI v11)), (0, .ref b), (1, .ref (ad 0)), (2, .ref lk), (3, .int (zI dn)), (4, .int (zI (k10 : Int)))] (by decide) rfl dL_undone_133 (fun ls hl => ?_)
          refine z_goto C0 (tgt := 384) dL_undone_135 (by decide) ?_
          refine W.widen (k := (3468 * k10 + 1759)) (n := (20896 * k10 + 10645)) (by omega) (by omega) ?_
          exact jn384 k25 M25 F25 hDu25 hr25 _ _ _ Wd (lv_sub hl [3, 4, 5, 6, 7, 2, 1, 0] rfl)
        refine z_ite (fun t26 => ?_) (fun t26 => ?_)
        · skip
          refine z_aload_n C0 hl 3 rfl dL_undone_138 ?_
          refine z_iload C0 hl 0 rfl dL_undone_139 ?_
          refine z_bipush C0 dL_undone_141 (by decide) ?_
          obtain ⟨v27, hev27, hbv27, hcv27⟩ : ∃ v, (v11 / 16) % 8 = v ∧ 0 ≤ v ∧ v < 8 := ⟨_, rfl, Int.emod_nonneg _ (by omega), Int.emod_lt_of_pos _ (by omega)⟩
          refine z_irem C0 (v := v27) ⟨⟨by omega, by omega⟩, ⟨by omega, by omega⟩, hev27⟩ dL_undone_143 ?_
          clear hev27
          refine z_iload C0 hl 0 rfl dL_undone_144 ?_
          refine z_iconst C0 dL_undone_146 ?_
          refine z_iushr C0 (v := ((v11 / 16) / 8)) (zus_d 3 (by omega) (by omega) ⟨by decide, by decide⟩ rfl) dL_undone_147 ?_
          refine z_bipush C0 dL_undone_148 (by decide) ?_
          obtain ⟨v28, hev28, hbv28, hcv28⟩ : ∃ v, ((v11 / 16) / 8) % 8 = v ∧ 0 ≤ v ∧ v < 8 := ⟨_, rfl, Int.emod_nonneg _ (by omega), Int.emod_lt_of_pos _ (by omega)⟩
          refine z_irem C0 (v := v28) ⟨⟨by omega, by omega⟩, ⟨by omega, by omega⟩, hev28⟩ dL_undone_150 ?_
          clear hev28
          refine z_invSH (As := [.ref (ad 0), .int (zI v27), .int (zI v28)]) (rest := []) C0 Wd hst (hq_removeTunnel l g ([lcl g lk (zup D dn (sgV V10))] ++ zX) ad M12 F12 hL12 v27 (zR_mk (by omega) (by omega)) v28 (zR_mk (by omega) (by omega)) ) hs_removeTunnel zk_1496 rfl hl.1 rfl (Nat.le_of_ble_eq_true rfl) (by decide) ⟨by show _ ≤ 36254; omega, by show _ ≤ 218143; omega⟩ dL_undone_151 (fun k29 M29 F29 H locs hr29 hp29 Wd => ?_)
          have hDu29 := du_RT hL12 hp29
          refine z_istore C0 hl [(7, .int (zI k29)), (6, .int (zI (v11 / 16))), (5, .int (zI v11)), (0, .ref b), (1, .ref (ad 0)), (2, .ref lk), (3, .int (zI dn)), (4, .int (zI (k10 : Int)))] (by decide) rfl dL_undone_154 (fun ls hl => ?_)
          refine z_goto C0 (tgt := 384) dL_undone_156 (by decide) ?_
          refine W.widen (k := (3468 * k10 + 1759)) (n := (20896 * k10 + 10645)) (by omega) (by omega) ?_
          exact jn384 k29 M29 F29 hDu29 hr29 _ _ _ Wd (lv_sub hl [3, 4, 5, 6, 7, 2, 1, 0] rfl)
        refine z_ite (fun t30 => ?_) (fun t30 => ?_)
        · skip
          refine z_iload C0 hl 0 rfl dL_undone_159 ?_
          refine z_iconst C0 dL_undone_161 ?_
          obtain ⟨v31, hev31, hbv31, hcv31⟩ : ∃ v, (v11 / 16) % 2 = v ∧ 0 ≤ v ∧ v < 2 := ⟨_, rfl, Int.emod_nonneg _ (by omega), Int.emod_lt_of_pos _ (by omega)⟩
          refine z_irem C0 (v := v31) ⟨⟨by omega, by omega⟩, ⟨by omega, by omega⟩, hev31⟩ dL_undone_162 ?_
          clear hev31
          refine z_if_ne C0 (tgt := 180) (zR_mk (by omega) (by omega)) dL_undone_163 (by decide) (fun c32 => ?_) (fun c32 => ?_)
          · skip
            refine z_aload_n C0 hl 3 rfl dL_undone_180 ?_
            refine z_iload C0 hl 0 rfl dL_undone_181 ?_
            refine z_iconst C0 dL_undone_183 ?_
            refine z_iushr C0 (v := ((v11 / 16) / 2)) (zus_d 1 (by omega) (by omega) ⟨by decide, by decide⟩ rfl) dL_undone_184 ?_
            refine z_bipush C0 dL_undone_185 (by decide) ?_
            obtain ⟨v33, hev33, hbv33, hcv33⟩ : ∃ v, ((v11 / 16) / 2) % 7 = v ∧ 0 ≤ v ∧ v < 7 := ⟨_, rfl, Int.emod_nonneg _ (by omega), Int.emod_lt_of_pos _ (by omega)⟩
            refine z_irem C0 (v := v33) ⟨⟨by omega, by omega⟩, ⟨by omega, by omega⟩, hev33⟩ dL_undone_187 ?_
            clear hev33
            refine z_iload C0 hl 0 rfl dL_undone_188 ?_
            refine z_iconst C0 dL_undone_190 ?_
            refine z_iushr C0 (v := ((v11 / 16) / 16)) (zus_d 4 (by omega) (by omega) ⟨by decide, by decide⟩ rfl) dL_undone_191 ?_
            refine z_bipush C0 dL_undone_192 (by decide) ?_
            obtain ⟨v34, hev34, hbv34, hcv34⟩ : ∃ v, ((v11 / 16) / 16) % 8 = v ∧ 0 ≤ v ∧ v < 8 := ⟨_, rfl, Int.emod_nonneg _ (by omega), Int.emod_lt_of_pos _ (by omega)⟩
            refine z_irem C0 (v := v34) ⟨⟨by omega, by omega⟩, ⟨by omega, by omega⟩, hev34⟩ dL_undone_194 ?_
            clear hev34
            refine z_invSH (As := [.ref (ad 0), .int (zI v33), .int (zI v34)]) (rest := []) C0 Wd hst (hq_move l g ([lcl g lk (zup D dn (sgV V10))] ++ zX) ad M12 F12 hL12 v33 (zR_mk (by omega) (by omega)) v34 (zR_mk (by omega) (by omega)) ) hs_move zk_655 rfl hl.1 rfl (Nat.le_of_ble_eq_true rfl) (by decide) ⟨by show _ ≤ 36254; omega, by show _ ≤ 218143; omega⟩ dL_undone_195 (fun k35 M35 F35 H locs hr35 hp35 Wd => ?_)
            have hDu35 := du_Mv hL12 hp35
            refine z_istore C0 hl [(7, .int (zI k35)), (6, .int (zI (v11 / 16))), (5, .int (zI v11)), (0, .ref b), (1, .ref (ad 0)), (2, .ref lk), (3, .int (zI dn)), (4, .int (zI (k10 : Int)))] (by decide) rfl dL_undone_198 (fun ls hl => ?_)
            refine z_goto C0 (tgt := 384) dL_undone_200 (by decide) ?_
            refine W.widen (k := (3468 * k10 + 1759)) (n := (20896 * k10 + 10645)) (by omega) (by omega) ?_
            exact jn384 k35 M35 F35 hDu35 hr35 _ _ _ Wd (lv_sub hl [3, 4, 5, 6, 7, 2, 1, 0] rfl)
          · skip
            refine z_aload_n C0 hl 3 rfl dL_undone_166 ?_
            refine z_iload C0 hl 0 rfl dL_undone_167 ?_
            refine z_iconst C0 dL_undone_169 ?_
            refine z_iushr C0 (v := ((v11 / 16) / 2)) (zus_d 1 (by omega) (by omega) ⟨by decide, by decide⟩ rfl) dL_undone_170 ?_
            refine z_bipush C0 dL_undone_171 (by decide) ?_
            obtain ⟨v36, hev36, hbv36, hcv36⟩ : ∃ v, ((v11 / 16) / 2) % 9 = v ∧ 0 ≤ v ∧ v < 9 := ⟨_, rfl, Int.emod_nonneg _ (by omega), Int.emod_lt_of_pos _ (by omega)⟩
            refine z_irem C0 (v := v36) ⟨⟨by omega, by omega⟩, ⟨by omega, by omega⟩, hev36⟩ dL_undone_173 ?_
            clear hev36
            refine z_invSH (As := [.ref (ad 0), .int (zI v36)]) (rest := []) C0 Wd hst (hq_addHare l g ([lcl g lk (zup D dn (sgV V10))] ++ zX) ad M12 F12 hL12 v36 (zR_mk (by omega) (by omega)) ) hs_addHare zk_606 rfl hl.1 rfl (Nat.le_of_ble_eq_true rfl) (by decide) ⟨by show _ ≤ 36254; omega, by show _ ≤ 218143; omega⟩ dL_undone_174 (fun k37 M37 F37 H locs hr37 hp37 Wd => ?_)
            have hDu37 := du_AH hL12 hp37
            refine z_goto C0 (tgt := 198) dL_undone_177 (by decide) ?_
            refine z_istore C0 hl [(7, .int (zI k37)), (6, .int (zI (v11 / 16))), (5, .int (zI v11)), (0, .ref b), (1, .ref (ad 0)), (2, .ref lk), (3, .int (zI dn)), (4, .int (zI (k10 : Int)))] (by decide) rfl dL_undone_198 (fun ls hl => ?_)
            refine z_goto C0 (tgt := 384) dL_undone_200 (by decide) ?_
            refine W.widen (k := (3468 * k10 + 1759)) (n := (20896 * k10 + 10645)) (by omega) (by omega) ?_
            exact jn384 k37 M37 F37 hDu37 hr37 _ _ _ Wd (lv_sub hl [3, 4, 5, 6, 7, 2, 1, 0] rfl)
        refine z_ite (fun t38 => ?_) (fun t38 => ?_)
        · skip
          refine z_aload_n C0 hl 3 rfl dL_undone_203 ?_
          refine z_iload C0 hl 0 rfl dL_undone_204 ?_
          refine z_bipush C0 dL_undone_206 (by decide) ?_
          obtain ⟨v39, hev39, hbv39, hcv39⟩ : ∃ v, (v11 / 16) % 7 = v ∧ 0 ≤ v ∧ v < 7 := ⟨_, rfl, Int.emod_nonneg _ (by omega), Int.emod_lt_of_pos _ (by omega)⟩
          refine z_irem C0 (v := v39) ⟨⟨by omega, by omega⟩, ⟨by omega, by omega⟩, hev39⟩ dL_undone_208 ?_
          clear hev39
          refine z_iload C0 hl 1 rfl dL_undone_209 ?_
          refine z_bipush C0 dL_undone_211 (by decide) ?_
          obtain ⟨v40, hev40, hbv40, hcv40⟩ : ∃ v, v11 % 20 = v ∧ 0 ≤ v ∧ v < 20 := ⟨_, rfl, Int.emod_nonneg _ (by omega), Int.emod_lt_of_pos _ (by omega)⟩
          refine z_irem C0 (v := v40) ⟨⟨by omega, by omega⟩, ⟨by omega, by omega⟩, hev40⟩ dL_undone_213 ?_
          clear hev40
          have jn224 : ∀ (M8224 F8224 : zMem) (hL8224 : zLw t10 m10 V10 U10 M8224 F8224) (H : Heap) (locs : List Loc) (ls : Array Slot) (Wd : zW g (zA (0, 398, zX) ad s.heap.size) s.heap (0, 398, ([lcl g lk (zup D dn (sgV V10))] ++ zX)) ad M8224 F8224 H locs) (hl : lv_has ls 8 [(0, .ref b), (1, .ref (ad 0)), (2, .ref lk), (3, .int (zI dn)), (4, .int (zI (k10 : Int))), (5, .int (zI v11)), (6, .int (zI (v11 / 16)))]), W p l e (zrm 15 36254 218143) s m args below meth c H locs (3468 * k10 + 1711) (20896 * k10 + 10269) (zMQ below g (0, 398, zX) ad (zPi (fun k _ _ => k = 1)) args s 36254 218143) (F0 m 224 ls [.int (zI (zb (v40 < 10))), .int (zI v39), .ref (ad 0)]) := by
            intro M8224 F8224 hL8224 H locs ls Wd hl
            refine z_invSH (As := [.ref (ad 0), .int (zI v39), .int (zI (zb (v40 < 10)))]) (rest := []) C0 Wd hst (hq_listen l g ([lcl g lk (zup D dn (sgV V10))] ++ zX) ad M8224 F8224 hL8224 v39 (zR_mk (by omega) (by omega)) (v40 < 10) ) hs_listen zk_640 rfl hl.1 rfl (Nat.le_of_ble_eq_true rfl) (by decide) ⟨by show _ ≤ 36254; omega, by show _ ≤ 218143; omega⟩ dL_undone_224 (fun k41 M41 F41 H locs hr41 hp41 Wd => ?_)
            have hDu41 := du_Li hL8224 hp41
            refine z_istore C0 hl [(7, .int (zI k41)), (0, .ref b), (1, .ref (ad 0)), (2, .ref lk), (3, .int (zI dn)), (4, .int (zI (k10 : Int))), (5, .int (zI v11)), (6, .int (zI (v11 / 16)))] (by decide) rfl dL_undone_227 (fun ls hl => ?_)
            refine z_goto C0 (tgt := 384) dL_undone_229 (by decide) ?_
            refine W.widen (k := (3468 * k10 + 1759)) (n := (20896 * k10 + 10645)) (by omega) (by omega) ?_
            exact jn384 k41 M41 F41 hDu41 hr41 _ _ _ Wd (lv_sub hl [1, 2, 3, 4, 5, 6, 7, 0] rfl)
          refine z_bipush C0 dL_undone_214 (by decide) ?_
          refine z_icmp_ge C0 (tgt := 223) (zR_mk (by omega) (by omega)) (zR_mk (by decide) (by decide)) dL_undone_216 (by decide) (fun c42 => ?_) (fun c42 => ?_)
          · skip
            refine z_iconst C0 dL_undone_223 ?_
            refine z_top (congrArg zI (show 0 = zb (v40 < 10) from (zb_f (by omega)).symm)) ?_
            refine W.widen (k := (3468 * k10 + 1711)) (n := (20896 * k10 + 10269)) (by omega) (by omega) ?_
            exact jn224  M12 F12 hL12  _ _ _ Wd (lv_sub hl [2, 3, 4, 5, 6, 1, 0] rfl)
          · skip
            refine z_iconst C0 dL_undone_219 ?_
            refine z_goto C0 (tgt := 224) dL_undone_220 (by decide) ?_
            refine z_top (congrArg zI (show 1 = zb (v40 < 10) from (zb_t (by omega)).symm)) ?_
            refine W.widen (k := (3468 * k10 + 1711)) (n := (20896 * k10 + 10269)) (by omega) (by omega) ?_
            exact jn224  M12 F12 hL12  _ _ _ Wd (lv_sub hl [2, 3, 4, 5, 6, 1, 0] rfl)
        refine z_ite (fun t43 => ?_) (fun t43 => ?_)
        · skip
          refine z_aload_n C0 hl 3 rfl dL_undone_232 ?_
          refine z_iload C0 hl 0 rfl dL_undone_233 ?_
          refine z_bipush C0 dL_undone_235 (by decide) ?_
          obtain ⟨v44, hev44, hbv44, hcv44⟩ : ∃ v, (v11 / 16) % 6 = v ∧ 0 ≤ v ∧ v < 6 := ⟨_, rfl, Int.emod_nonneg _ (by omega), Int.emod_lt_of_pos _ (by omega)⟩
          refine z_irem C0 (v := v44) ⟨⟨by omega, by omega⟩, ⟨by omega, by omega⟩, hev44⟩ dL_undone_237 ?_
          clear hev44
          refine z_iload C0 hl 0 rfl dL_undone_238 ?_
          refine z_iconst C0 dL_undone_240 ?_
          refine z_iushr C0 (v := ((v11 / 16) / 8)) (zus_d 3 (by omega) (by omega) ⟨by decide, by decide⟩ rfl) dL_undone_241 ?_
          refine z_bipush C0 dL_undone_242 (by decide) ?_
          obtain ⟨v45, hev45, hbv45, hcv45⟩ : ∃ v, ((v11 / 16) / 8) % 6 = v ∧ 0 ≤ v ∧ v < 6 := ⟨_, rfl, Int.emod_nonneg _ (by omega), Int.emod_lt_of_pos _ (by omega)⟩
          refine z_irem C0 (v := v45) ⟨⟨by omega, by omega⟩, ⟨by omega, by omega⟩, hev45⟩ dL_undone_244 ?_
          clear hev45
          refine z_iload C0 hl 0 rfl dL_undone_245 ?_
          refine z_bipush C0 dL_undone_247 (by decide) ?_
          refine z_iushr C0 (v := ((v11 / 16) / 64)) (zus_d 6 (by omega) (by omega) ⟨by decide, by decide⟩ rfl) dL_undone_249 ?_
          refine z_bipush C0 dL_undone_250 (by decide) ?_
          obtain ⟨v46, hev46, hbv46, hcv46⟩ : ∃ v, ((v11 / 16) / 64) % 17 = v ∧ 0 ≤ v ∧ v < 17 := ⟨_, rfl, Int.emod_nonneg _ (by omega), Int.emod_lt_of_pos _ (by omega)⟩
          refine z_irem C0 (v := v46) ⟨⟨by omega, by omega⟩, ⟨by omega, by omega⟩, hev46⟩ dL_undone_252 ?_
          clear hev46
          refine z_invSH (As := [.ref (ad 0), .int (zI v44), .int (zI v45), .int (zI v46)]) (rest := []) C0 Wd hst (hq_say l g ([lcl g lk (zup D dn (sgV V10))] ++ zX) ad M12 F12 hL12 v44 (zR_mk (by omega) (by omega)) v45 (zR_mk (by omega) (by omega)) v46 (zR_mk (by omega) (by omega)) (by omega)) hs_say zk_621 rfl hl.1 rfl (Nat.le_of_ble_eq_true rfl) (by decide) ⟨by show _ ≤ 36254; omega, by show _ ≤ 218143; omega⟩ dL_undone_253 (fun k47 M47 F47 H locs hr47 hp47 Wd => ?_)
          have hDu47 := du_Say hL12 hp47
          refine z_istore C0 hl [(7, .int (zI k47)), (6, .int (zI (v11 / 16))), (5, .int (zI v11)), (0, .ref b), (1, .ref (ad 0)), (2, .ref lk), (3, .int (zI dn)), (4, .int (zI (k10 : Int)))] (by decide) rfl dL_undone_256 (fun ls hl => ?_)
          refine z_goto C0 (tgt := 384) dL_undone_258 (by decide) ?_
          refine W.widen (k := (3468 * k10 + 1759)) (n := (20896 * k10 + 10645)) (by omega) (by omega) ?_
          exact jn384 k47 M47 F47 hDu47 hr47 _ _ _ Wd (lv_sub hl [3, 4, 5, 6, 7, 2, 1, 0] rfl)
        refine z_ite (fun t48 => ?_) (fun t48 => ?_)
        · skip
          refine z_aload_n C0 hl 3 rfl dL_undone_232 ?_
          refine z_iload C0 hl 0 rfl dL_undone_233 ?_
          refine z_bipush C0 dL_undone_235 (by decide) ?_
          obtain ⟨v49, hev49, hbv49, hcv49⟩ : ∃ v, (v11 / 16) % 6 = v ∧ 0 ≤ v ∧ v < 6 := ⟨_, rfl, Int.emod_nonneg _ (by omega), Int.emod_lt_of_pos _ (by omega)⟩
          refine z_irem C0 (v := v49) ⟨⟨by omega, by omega⟩, ⟨by omega, by omega⟩, hev49⟩ dL_undone_237 ?_
          clear hev49
          refine z_iload C0 hl 0 rfl dL_undone_238 ?_
          refine z_iconst C0 dL_undone_240 ?_
          refine z_iushr C0 (v := ((v11 / 16) / 8)) (zus_d 3 (by omega) (by omega) ⟨by decide, by decide⟩ rfl) dL_undone_241 ?_
          refine z_bipush C0 dL_undone_242 (by decide) ?_
          obtain ⟨v50, hev50, hbv50, hcv50⟩ : ∃ v, ((v11 / 16) / 8) % 6 = v ∧ 0 ≤ v ∧ v < 6 := ⟨_, rfl, Int.emod_nonneg _ (by omega), Int.emod_lt_of_pos _ (by omega)⟩
          refine z_irem C0 (v := v50) ⟨⟨by omega, by omega⟩, ⟨by omega, by omega⟩, hev50⟩ dL_undone_244 ?_
          clear hev50
          refine z_iload C0 hl 0 rfl dL_undone_245 ?_
          refine z_bipush C0 dL_undone_247 (by decide) ?_
          refine z_iushr C0 (v := ((v11 / 16) / 64)) (zus_d 6 (by omega) (by omega) ⟨by decide, by decide⟩ rfl) dL_undone_249 ?_
          refine z_bipush C0 dL_undone_250 (by decide) ?_
          obtain ⟨v51, hev51, hbv51, hcv51⟩ : ∃ v, ((v11 / 16) / 64) % 17 = v ∧ 0 ≤ v ∧ v < 17 := ⟨_, rfl, Int.emod_nonneg _ (by omega), Int.emod_lt_of_pos _ (by omega)⟩
          refine z_irem C0 (v := v51) ⟨⟨by omega, by omega⟩, ⟨by omega, by omega⟩, hev51⟩ dL_undone_252 ?_
          clear hev51
          refine z_invSH (As := [.ref (ad 0), .int (zI v49), .int (zI v50), .int (zI v51)]) (rest := []) C0 Wd hst (hq_say l g ([lcl g lk (zup D dn (sgV V10))] ++ zX) ad M12 F12 hL12 v49 (zR_mk (by omega) (by omega)) v50 (zR_mk (by omega) (by omega)) v51 (zR_mk (by omega) (by omega)) (by omega)) hs_say zk_621 rfl hl.1 rfl (Nat.le_of_ble_eq_true rfl) (by decide) ⟨by show _ ≤ 36254; omega, by show _ ≤ 218143; omega⟩ dL_undone_253 (fun k52 M52 F52 H locs hr52 hp52 Wd => ?_)
          have hDu52 := du_Say hL12 hp52
          refine z_istore C0 hl [(7, .int (zI k52)), (6, .int (zI (v11 / 16))), (5, .int (zI v11)), (0, .ref b), (1, .ref (ad 0)), (2, .ref lk), (3, .int (zI dn)), (4, .int (zI (k10 : Int)))] (by decide) rfl dL_undone_256 (fun ls hl => ?_)
          refine z_goto C0 (tgt := 384) dL_undone_258 (by decide) ?_
          refine W.widen (k := (3468 * k10 + 1759)) (n := (20896 * k10 + 10645)) (by omega) (by omega) ?_
          exact jn384 k52 M52 F52 hDu52 hr52 _ _ _ Wd (lv_sub hl [3, 4, 5, 6, 7, 2, 1, 0] rfl)
        refine z_ite (fun t53 => ?_) (fun t53 => ?_)
        · skip
          refine z_aload_n C0 hl 3 rfl dL_undone_261 ?_
          refine z_iload C0 hl 0 rfl dL_undone_262 ?_
          refine z_bipush C0 dL_undone_264 (by decide) ?_
          obtain ⟨v54, hev54, hbv54, hcv54⟩ : ∃ v, (v11 / 16) % 12 = v ∧ 0 ≤ v ∧ v < 12 := ⟨_, rfl, Int.emod_nonneg _ (by omega), Int.emod_lt_of_pos _ (by omega)⟩
          refine z_irem C0 (v := v54) ⟨⟨by omega, by omega⟩, ⟨by omega, by omega⟩, hev54⟩ dL_undone_266 ?_
          clear hev54
          refine z_invSH (As := [.ref (ad 0), .int (zI v54)]) (rest := []) C0 Wd hst (hq_forget l g ([lcl g lk (zup D dn (sgV V10))] ++ zX) ad M12 F12 hL12 v54 (zR_mk (by omega) (by omega)) ) hs_forget zk_1509 rfl hl.1 rfl (Nat.le_of_ble_eq_true rfl) (by decide) ⟨by show _ ≤ 36254; omega, by show _ ≤ 218143; omega⟩ dL_undone_267 (fun k55 M55 F55 H locs hr55 hp55 Wd => ?_)
          have hDu55 := du_Fo hL12 hp55
          refine z_istore C0 hl [(7, .int (zI k55)), (6, .int (zI (v11 / 16))), (5, .int (zI v11)), (0, .ref b), (1, .ref (ad 0)), (2, .ref lk), (3, .int (zI dn)), (4, .int (zI (k10 : Int)))] (by decide) rfl dL_undone_270 (fun ls hl => ?_)
          refine z_goto C0 (tgt := 384) dL_undone_272 (by decide) ?_
          refine W.widen (k := (3468 * k10 + 1759)) (n := (20896 * k10 + 10645)) (by omega) (by omega) ?_
          exact jn384 k55 M55 F55 hDu55 hr55 _ _ _ Wd (lv_sub hl [3, 4, 5, 6, 7, 2, 1, 0] rfl)
        refine z_ite (fun t56 => ?_) (fun t56 => ?_)
        · skip
          refine z_aload_n C0 hl 3 rfl dL_undone_275 ?_
          refine z_iload C0 hl 0 rfl dL_undone_276 ?_
          refine z_bipush C0 dL_undone_278 (by decide) ?_
          obtain ⟨v57, hev57, hbv57, hcv57⟩ : ∃ v, (v11 / 16) % 42 = v ∧ 0 ≤ v ∧ v < 42 := ⟨_, rfl, Int.emod_nonneg _ (by omega), Int.emod_lt_of_pos _ (by omega)⟩
          refine z_irem C0 (v := v57) ⟨⟨by omega, by omega⟩, ⟨by omega, by omega⟩, hev57⟩ dL_undone_280 ?_
          clear hev57
          refine z_invSH (As := [.ref (ad 0), .int (zI v57)]) (rest := []) C0 Wd hst (hq_pass l g ([lcl g lk (zup D dn (sgV V10))] ++ zX) ad M12 F12 hL12 v57 (zR_mk (by omega) (by omega)) (by omega) (by omega) (by omega)) hs_pass zk_674 rfl hl.1 rfl (Nat.le_of_ble_eq_true rfl) (by decide) ⟨by show _ ≤ 36254; omega, by show _ ≤ 218143; omega⟩ dL_undone_281 (fun k58 M58 F58 H locs hr58 hp58 Wd => ?_)
          have hDu58 := du_PT hL12 hp58 (by omega)
          refine z_istore C0 hl [(7, .int (zI k58)), (6, .int (zI (v11 / 16))), (5, .int (zI v11)), (0, .ref b), (1, .ref (ad 0)), (2, .ref lk), (3, .int (zI dn)), (4, .int (zI (k10 : Int)))] (by decide) rfl dL_undone_284 (fun ls hl => ?_)
          refine z_goto C0 (tgt := 384) dL_undone_286 (by decide) ?_
          refine W.widen (k := (3468 * k10 + 1759)) (n := (20896 * k10 + 10645)) (by omega) (by omega) ?_
          exact jn384 k58 M58 F58 hDu58 hr58 _ _ _ Wd (lv_sub hl [3, 4, 5, 6, 7, 2, 1, 0] rfl)
        refine z_aload_n C0 hl 3 rfl dL_undone_289 ?_
        refine lb_newB (rest := [.ref (ad 0)]) C0 Wd hl.1 (Nat.le_of_ble_eq_true rfl) ⟨by decide, by decide⟩ ⟨by show _ ≤ 36254; omega, by show _ ≤ 218143; omega⟩ dL_undone_290 dL_undone_293 dL_undone_294 (fun ab59 Mb59 Fb59 H locs hN59 hT59 hB59 Wd => ?_)
        refine z_ldcrw (tx := "tick ") (a := g.2.2.2 47) C0 (zc_r C0 (q := ("DrumWarrenLaw", 377, "tick ", 47)) (by decide +kernel)) dL_undone_297 ?_
        refine lb_SB (q := (g.2.2.2 47, g.2.2.2 87, [116, 105, 99, 107, 32])) (rest := [.ref (ad 0)]) C0 Wd hN59 hT59 hB59 (zc_tx (c := (47, 87, [116, 105, 99, 107, 32])) (by decide +kernel)) (show zLt ([116, 105, 99, 107, 32] : List Int32) from ⟨by decide, by decide⟩) (by simp only [List.length_append, List.length_map, List.length_cons, List.length_nil]; omega) zk_1293 hl.1 (Nat.le_of_ble_eq_true rfl) ⟨by decide, by decide⟩ ⟨by show _ ≤ 36254; omega, by show _ ≤ 218143; omega⟩ dL_undone_300 (fun Mb60 Fb60 H locs hN60 hB60 hT60 Wd => ?_)
        refine z_iconst C0 dL_undone_303 ?_
        refine z_iload C0 hl 0 rfl dL_undone_304 ?_
        refine z_bipush C0 dL_undone_306 (by decide) ?_
        obtain ⟨v61, hev61, hbv61, hcv61⟩ : ∃ v, (v11 / 16) % 7 = v ∧ 0 ≤ v ∧ v < 7 := ⟨_, rfl, Int.emod_nonneg _ (by omega), Int.emod_lt_of_pos _ (by omega)⟩
        refine z_irem C0 (v := v61) ⟨⟨by omega, by omega⟩, ⟨by omega, by omega⟩, hev61⟩ dL_undone_308 ?_
        clear hev61
        refine z_iadd C0 dL_undone_309 ?_
        have hz62 := zdgs_1 (x := (1 + v61)) (by omega)
        refine lb_IB (x := (1 + v61)) (rest := [.ref (ad 0)]) C0 Wd hN60 hT60 hB60 ⟨by omega, by omega⟩ ⟨by omega, by omega⟩ (by simp only [List.length_append, List.length_map, List.length_cons, List.length_nil]; omega) zk_1291 hl.1 (Nat.le_of_ble_eq_true rfl) ⟨by decide, by decide⟩ ⟨by show _ ≤ 36254; omega, by show _ ≤ 218143; omega⟩ dL_undone_310 (fun Mb62 Fb62 H locs hN62 hB62 hT62 Wd => ?_)
        refine z_ldcrw (tx := ";say ") (a := g.2.2.2 48) C0 (zc_r C0 (q := ("DrumWarrenLaw", 379, ";say ", 48)) (by decide +kernel)) dL_undone_313 ?_
        refine lb_SB (q := (g.2.2.2 48, g.2.2.2 88, [59, 115, 97, 121, 32])) (rest := [.ref (ad 0)]) C0 Wd hN62 hT62 hB62 (zc_tx (c := (48, 88, [59, 115, 97, 121, 32])) (by decide +kernel)) (show zLt ([59, 115, 97, 121, 32] : List Int32) from ⟨by decide, by decide⟩) (by simp only [List.length_append, List.length_map, List.length_cons, List.length_nil]; omega) zk_1293 hl.1 (Nat.le_of_ble_eq_true rfl) ⟨by decide, by decide⟩ ⟨by show _ ≤ 36254; omega, by show _ ≤ 218143; omega⟩ dL_undone_316 (fun Mb63 Fb63 H locs hN63 hB63 hT63 Wd => ?_)
        refine z_iload C0 hl 0 rfl dL_undone_319 ?_
        refine z_iconst C0 dL_undone_321 ?_
        refine z_iushr C0 (v := ((v11 / 16) / 8)) (zus_d 3 (by omega) (by omega) ⟨by decide, by decide⟩ rfl) dL_undone_322 ?_
        refine z_iconst C0 dL_undone_323 ?_
        obtain ⟨v64, hev64, hbv64, hcv64⟩ : ∃ v, ((v11 / 16) / 8) % 5 = v ∧ 0 ≤ v ∧ v < 5 := ⟨_, rfl, Int.emod_nonneg _ (by omega), Int.emod_lt_of_pos _ (by omega)⟩
        refine z_irem C0 (v := v64) ⟨⟨by omega, by omega⟩, ⟨by omega, by omega⟩, hev64⟩ dL_undone_324 ?_
        clear hev64
        have hz65 := zdgs_1 (x := v64) (by omega)
        refine lb_IB (x := v64) (rest := [.ref (ad 0)]) C0 Wd hN63 hT63 hB63 ⟨by omega, by omega⟩ ⟨by omega, by omega⟩ (by simp only [List.length_append, List.length_map, List.length_cons, List.length_nil]; omega) zk_1291 hl.1 (Nat.le_of_ble_eq_true rfl) ⟨by decide, by decide⟩ ⟨by show _ ≤ 36254; omega, by show _ ≤ 218143; omega⟩ dL_undone_325 (fun Mb65 Fb65 H locs hN65 hB65 hT65 Wd => ?_)
        refine z_ldcrw (tx := ">") (a := g.2.2.2 41) C0 (zc_r C0 (q := ("DrumWarrenLaw", 295, ">", 41)) (by decide +kernel)) dL_undone_328 ?_
        refine lb_SB (q := (g.2.2.2 41, g.2.2.2 81, [62])) (rest := [.ref (ad 0)]) C0 Wd hN65 hT65 hB65 (zc_tx (c := (41, 81, [62])) (by decide +kernel)) (show zLt ([62] : List Int32) from ⟨by decide, by decide⟩) (by simp only [List.length_append, List.length_map, List.length_cons, List.length_nil]; omega) zk_1293 hl.1 (Nat.le_of_ble_eq_true rfl) ⟨by decide, by decide⟩ ⟨by show _ ≤ 36254; omega, by show _ ≤ 218143; omega⟩ dL_undone_331 (fun Mb66 Fb66 H locs hN66 hB66 hT66 Wd => ?_)
        refine z_iload C0 hl 0 rfl dL_undone_334 ?_
        refine z_bipush C0 dL_undone_336 (by decide) ?_
        refine z_iushr C0 (v := ((v11 / 16) / 64)) (zus_d 6 (by omega) (by omega) ⟨by decide, by decide⟩ rfl) dL_undone_338 ?_
        refine z_iconst C0 dL_undone_339 ?_
        obtain ⟨v67, hev67, hbv67, hcv67⟩ : ∃ v, ((v11 / 16) / 64) % 5 = v ∧ 0 ≤ v ∧ v < 5 := ⟨_, rfl, Int.emod_nonneg _ (by omega), Int.emod_lt_of_pos _ (by omega)⟩
        refine z_irem C0 (v := v67) ⟨⟨by omega, by omega⟩, ⟨by omega, by omega⟩, hev67⟩ dL_undone_340 ?_
        clear hev67
        have hz68 := zdgs_1 (x := v67) (by omega)
        refine lb_IB (x := v67) (rest := [.ref (ad 0)]) C0 Wd hN66 hT66 hB66 ⟨by omega, by omega⟩ ⟨by omega, by omega⟩ (by simp only [List.length_append, List.length_map, List.length_cons, List.length_nil]; omega) zk_1291 hl.1 (Nat.le_of_ble_eq_true rfl) ⟨by decide, by decide⟩ ⟨by show _ ≤ 36254; omega, by show _ ≤ 218143; omega⟩ dL_undone_341 (fun Mb68 Fb68 H locs hN68 hB68 hT68 Wd => ?_)
        refine z_ldcrw (tx := "=11;tick 3;go ") (a := g.2.2.2 49) C0 (zc_r C0 (q := ("DrumWarrenLaw", 381, "=11;tick 3;go ", 49)) (by decide +kernel)) dL_undone_344 ?_
        refine lb_G (rest := [.ref (ad 0)]) C0 Wd hN68 hT68 hB68 (by simp only [List.length_append, List.length_map, List.length_cons, List.length_nil]; omega) zk_1293 hl.1 (Nat.le_of_ble_eq_true rfl) ⟨by decide, by decide⟩ ⟨by show _ ≤ 36254; omega, by show _ ≤ 218143; omega⟩ dL_undone_347 (fun ab69 Mb69 Fb69 H locs hN69 hT69 Wd => ?_)
        refine z_iload C0 hl 0 rfl dL_undone_350 ?_
        refine z_bipush C0 dL_undone_352 (by decide) ?_
        refine z_iushr C0 (v := ((v11 / 16) / 512)) (zus_d 9 (by omega) (by omega) ⟨by decide, by decide⟩ rfl) dL_undone_354 ?_
        refine z_iconst C0 dL_undone_355 ?_
        obtain ⟨v70, hev70, hbv70, hcv70⟩ : ∃ v, ((v11 / 16) / 512) % 5 = v ∧ 0 ≤ v ∧ v < 5 := ⟨_, rfl, Int.emod_nonneg _ (by omega), Int.emod_lt_of_pos _ (by omega)⟩
        refine z_irem C0 (v := v70) ⟨⟨by omega, by omega⟩, ⟨by omega, by omega⟩, hev70⟩ dL_undone_356 ?_
        clear hev70
        have hz71 := zdgs_1 (x := v70) (by omega)
        refine lb_IG (x := v70) (rest := [.ref (ad 0)]) C0 Wd hN69 hT69 ⟨by omega, by omega⟩ (by simp only [List.length_append, List.length_map, List.length_cons, List.length_nil]; omega) zk_1291 hl.1 (Nat.le_of_ble_eq_true rfl) ⟨by decide, by decide⟩ ⟨by show _ ≤ 36254; omega, by show _ ≤ 218143; omega⟩ dL_undone_357 (fun Mb71 Fb71 H locs hN71 hT71 Wd => ?_)
        refine z_ldcrw (tx := "@") (a := g.2.2.2 50) C0 (zc_r C0 (q := ("DrumWarrenLaw", 383, "@", 50)) (by decide +kernel)) dL_undone_360 ?_
        refine lb_SG (q := (g.2.2.2 50, g.2.2.2 90, [64])) (rest := [.ref (ad 0)]) C0 Wd hN71 hT71 (zc_tx (c := (50, 90, [64])) (by decide +kernel)) (show zLt ([64] : List Int32) from ⟨by decide, by decide⟩) (by simp only [List.length_append, List.length_map, List.length_cons, List.length_nil]; omega) zk_1293 hl.1 (Nat.le_of_ble_eq_true rfl) ⟨by decide, by decide⟩ ⟨by show _ ≤ 36254; omega, by show _ ≤ 218143; omega⟩ dL_undone_363 (fun Mb72 Fb72 H locs hN72 hT72 Wd => ?_)
        refine z_iload C0 hl 0 rfl dL_undone_366 ?_
        refine z_bipush C0 dL_undone_368 (by decide) ?_
        refine z_iushr C0 (v := ((v11 / 16) / 4096)) (zus_d 12 (by omega) (by omega) ⟨by decide, by decide⟩ rfl) dL_undone_370 ?_
        refine z_iconst C0 dL_undone_371 ?_
        obtain ⟨v73, hev73, hbv73, hcv73⟩ : ∃ v, ((v11 / 16) / 4096) % 5 = v ∧ 0 ≤ v ∧ v < 5 := ⟨_, rfl, Int.emod_nonneg _ (by omega), Int.emod_lt_of_pos _ (by omega)⟩
        refine z_irem C0 (v := v73) ⟨⟨by omega, by omega⟩, ⟨by omega, by omega⟩, hev73⟩ dL_undone_372 ?_
        clear hev73
        have hz74 := zdgs_1 (x := v73) (by omega)
        refine lb_IG (x := v73) (rest := [.ref (ad 0)]) C0 Wd hN72 hT72 ⟨by omega, by omega⟩ (by simp only [List.length_append, List.length_map, List.length_cons, List.length_nil]; omega) zk_1291 hl.1 (Nat.le_of_ble_eq_true rfl) ⟨by decide, by decide⟩ ⟨by show _ ≤ 36254; omega, by show _ ≤ 218143; omega⟩ dL_undone_373 (fun Mb74 Fb74 H locs hN74 hT74 Wd => ?_)
        have hch75 : zch ([] ++ ([116, 105, 99, 107, 32] : List Int32).map Int32.toInt ++ zdgs (1 + v61) ++ ([59, 115, 97, 121, 32] : List Int32).map Int32.toInt ++ zdgs v64 ++ ([62] : List Int32).map Int32.toInt ++ zdgs v67 ++ C14.map Int32.toInt ++ zdgs v70 ++ ([64] : List Int32).map Int32.toInt ++ zdgs v73) := (zch_a (zch_a (zch_a (zch_a (zch_a (zch_a (zch_a (zch_a (zch_a (zch_a zch_0 (by decide)) (zch_d ⟨by omega, by omega⟩)) (by decide)) (zch_d ⟨by omega, by omega⟩)) (by decide)) (zch_d ⟨by omega, by omega⟩)) (by decide)) (zch_d ⟨by omega, by omega⟩)) (by decide)) (zch_d ⟨by omega, by omega⟩))
        have h3375 : ([] ++ ([116, 105, 99, 107, 32] : List Int32).map Int32.toInt ++ zdgs (1 + v61) ++ ([59, 115, 97, 121, 32] : List Int32).map Int32.toInt ++ zdgs v64 ++ ([62] : List Int32).map Int32.toInt ++ zdgs v67 ++ C14.map Int32.toInt ++ zdgs v70 ++ ([64] : List Int32).map Int32.toInt ++ zdgs v73).length < 34 := (by simp only [List.length_append, List.length_map, List.length_cons, List.length_nil]; omega)
        refine lb_TG (rest := [.ref (ad 0)]) C0 Wd hN74 hT74 h3375 hch75 zk_1330 hl.1 (Nat.le_of_ble_eq_true rfl) ⟨by decide, by decide⟩ ⟨by show _ ≤ 36254; omega, by show _ ≤ 218143; omega⟩ dL_undone_376 (fun q75 w75 H locs hqe75 hqr75 Wd => ?_)
        have hql75 : zLt q75.2.2 := by rw [hqe75]; exact zLt_map hch75 (Nat.le_trans (Nat.le_of_lt h3375) (by decide))
        refine z_invT (q := q75) (w2 := w75) (As := [.ref (ad 0), .ref q75.1]) (rest := []) C0 Wd (lw_execute l g ([lcl g lk (zup D dn (sgV V10))] ++ zX) ad M12 F12 hL12 q75 hql75 (by rw [hqe75, List.length_map]; exact Int.ofNat_le.mpr (Nat.le_of_lt_succ h3375)) (by omega) hst) ks_L_execute hqr75 zk_1526 rfl hl.1 rfl (Nat.le_of_ble_eq_true rfl) (by decide) ⟨by show _ ≤ 36254; omega, by show _ ≤ 218143; omega⟩ dL_undone_379 (z_kki (fun k76 M76 F76 H locs hr76 hp76 Wd => ?_))
        refine z_istore C0 hl [(7, .int (zI k76)), (6, .int (zI (v11 / 16))), (5, .int (zI v11)), (0, .ref b), (1, .ref (ad 0)), (2, .ref lk), (3, .int (zI dn)), (4, .int (zI (k10 : Int)))] (by decide) rfl dL_undone_382 (fun ls hl => ?_)
        refine W.widen (k := (3468 * k10 + 1759)) (n := (20896 * k10 + 10645)) (by omega) (by omega) ?_
        exact jn384 k76 M76 F76 hp76 hr76 _ _ _ Wd (lv_sub hl [3, 4, 5, 6, 7, 2, 1, 0] rfl)
  refine W.widen (k := (3468 * 0 + 1)) (n := (20896 * 0 + 9)) (by omega) (by omega) ?_
  exact lp10 7 0 (by omega) t many V U (fun _ => 0) 0 M F hL ⟨hL.t0, by omega⟩ ⟨by decide, by decide, hL.hi.2.2.1.1⟩ (fun i i0 i1 => by omega) _ _ _ Wd (lv_sub hl [3, 4, 2, 1, 0] rfl)
