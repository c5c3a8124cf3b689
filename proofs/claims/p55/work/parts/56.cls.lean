/-! the class: ticks pass -/
theorem kv_X10_passOneTick : zKV yX10_passOneTick cX10_passOneTick 1 none "DrumWarren$State" 0 := ⟨zk_688, zk_686, zk_687, zk_26, by decide, by decide, by decide +kernel⟩
set_option maxHeartbeats 4000000 in
set_option maxRecDepth 100000 in
theorem ct_X10_passOneTick (l : Launch) (g : zG) (zX : va_W) (ad : Int → Nat) (zM0 zF0 : zMem) (b : Int) (hb : zB b) (V : Int → Int) (zt : Int) (hR : zRS b V zM0 zF0) (hI : zIV zt V) (hTD : zTD V) (hP : zP0 V) (ht : zt ≤ 80000000) : zMt l yX10_passOneTick cX10_passOneTick 1 none 5 0 0 g (0, 398, zX) ad [.ref (ad b)] zM0 zF0 (zPv (fun M' F' => (∃ M1 : zMem, (zRS b (zTick V) M1 zF0) ∧ (zOut b zM0 zF0 M1 zF0) ∧ M1 = M' ∧ zF0 = F'))) := by
  refine zMt.of "DrumWarren$State" rfl (by decide +kernel) (Nat.le_of_ble_eq_true rfl) (fun {p e s m args below meth c ls} C0 Wd hl hret hlk hin => ?_)
  have hl : lv_has ls 1 [(0, .ref (ad b))] := hl
  have h0b := hI.1
  have h1b := hI.2.1
  have h2b := hI.2.2.1
  have hbb := zB_bd hb
  obtain ⟨hIb, hTb, hkb⟩ := zBegs_keep hI hTD
  have hPb : zP0 (zBegs V) := zBegK_pk hI hP (V 0).toNat
  have e2b := hkb 2 (by decide)
  obtain ⟨hIc, hkc, -⟩ := zTkB_keep hIb hTb (zBegs V 2).toNat (by omega)
  have hPc9 := zTkB_pk hIb hTb hPb (zBegs V 2).toNat (by omega)
  have e2c : zTkB (zBegs V) 2 = zBegs V 2 := hkc 2 (by decide) (by decide)
  have hPc : zPk (fun _ => 1) (zTkB (zBegs V)) := zPk_f hPc9 (fun q q0 q1 _ => by
      show (1 : Int) = if q < (((zBegs V 2).toNat : Nat) : Int) then 1 else 0
      have q1' : q < zBegs V 2 := by rw [← e2c]; exact q1
      rw [if_pos (by omega)])
  have hIc2 : zIV (zt + (zBegs V 2).toNat) (zTkB (zBegs V)) := hIc
  obtain ⟨hId9, hkd, -⟩ := zTkC_keep hIc2 (zTkB (zBegs V) 2).toNat (by omega)
  have hId : zIV (zt + (zBegs V 2).toNat + (zTkB (zBegs V) 2).toNat) (zTkC (zTkB (zBegs V))) := hId9
  have hPd : zPk (fun _ => 1) (zTkC (zTkB (zBegs V))) := zTkC_pk hIc2 hPc (zTkB (zBegs V) 2).toNat (by omega)
  have h4b := hId.2.2.2.1 4 (by decide) (by decide)
  refine z_aload_n C0 hl 0 rfl dX10_passOneTick_0 ?_
  refine z_invVv (As := []) (rest := []) C0 Wd (ct_X10_beginMessages l g zX ad zM0 zF0 b hb V zt hR hI hTD) kv_X10_beginMessages (znB0 hb) (zE_7 (zkB0 hb)) rfl zk_689 rfl hl.1 rfl (Nat.le_of_ble_eq_true rfl) (by decide) (by decide) dX10_passOneTick_1 (fun zMr1 zFr1 H locs hp Wd => ?_)
  rcases hp with ⟨M1_r1, hr1_0_0, hr1_0_1, rfl, rfl⟩
  · skip
    refine z_aload_n C0 hl 0 rfl dX10_passOneTick_4 ?_
    refine z_invVv (As := []) (rest := []) C0 Wd (ct_X10_drumBeats l g zX ad M1_r1 zF0 b hb (zBegs V) zt hr1_0_0 hIb hTb hPb (by omega)) kv_X10_drumBeats (znB0 hb) (zE_7 (zkB0 hb)) rfl zk_702 rfl hl.1 rfl (Nat.le_of_ble_eq_true rfl) (by decide) (by decide) dX10_passOneTick_5 (fun zMr3 zFr3 H locs hp Wd => ?_)
    rcases hp with ⟨M1_r3, hr3_0_0, hr3_0_1, rfl, rfl⟩
    · skip
      refine z_aload_n C0 hl 0 rfl dX10_passOneTick_8 ?_
      refine z_invVv (As := []) (rest := []) C0 Wd (ct_X10_decideDeliveries l g zX ad M1_r3 zF0 b hb (zTkB (zBegs V)) (zt + ((zBegs V 2).toNat : Int)) hr3_0_0 hIc2 hPc (by omega)) kv_X10_decideDeliveries (znB0 hb) (zE_7 (zkB0 hb)) rfl zk_737 rfl hl.1 rfl (Nat.le_of_ble_eq_true rfl) (by decide) (by decide) dX10_passOneTick_9 (fun zMr5 zFr5 H locs hp Wd => ?_)
      rcases hp with ⟨M1_r5, hr5_0_0, hr5_0_1, rfl, rfl⟩
      · skip
        refine z_aload_n C0 hl 0 rfl dX10_passOneTick_12 ?_
        refine z_dup C0 rfl dX10_passOneTick_13 ?_
        refine zg_7_7 C0 Wd (znB0 hb) (zkB0 hb) zk_206 dX10_passOneTick_14 ?_
        obtain ⟨he8, hz7⟩ : (M1_r5 b 7) = ((zTkC (zTkB (zBegs V))) 4) ∧ zR ((zTkC (zTkB (zBegs V))) 4) := (fun q => ⟨q, q ▸ Wd.rm _ _⟩) hr5_0_0.c7
        refine z_top (congrArg zI he8) ?_
        clear he8
        refine z_iconst C0 dX10_passOneTick_17 ?_
        refine z_iadd C0 dX10_passOneTick_18 ?_
        refine zp_7_7 C0 Wd (znB0 hb) (zkB0 hb) (by have q0 := hz7.1; have p0 := hz7.2; exact zR_mk (by omega) (by omega)) zk_206 dX10_passOneTick_19 (fun H locs Wd => ?_)
        refine z_aload_n C0 hl 0 rfl dX10_passOneTick_22 ?_
        refine zg_7_6 C0 Wd (znB0 hb) (zkB0 hb) zk_204 dX10_passOneTick_23 ?_
        refine z_aload_n C0 hl 0 rfl dX10_passOneTick_26 ?_
        refine zg_7_7 C0 Wd (znB0 hb) (zkB0 hb) zk_206 dX10_passOneTick_27 ?_
        obtain ⟨he11, hz9⟩ : ((zu M1_r5 b 7 (((zTkC (zTkB (zBegs V))) 4) + 1)) b 7) = (((zTkC (zTkB (zBegs V))) 4) + 1) ∧ zR (((zTkC (zTkB (zBegs V))) 4) + 1) := (fun q => ⟨q, q ▸ Wd.rm _ _⟩) (zu_same _ _ _ _)
        refine z_top (congrArg zI he11) ?_
        clear he11
        refine z_bipush C0 dX10_passOneTick_30 (by decide) ?_
        refine z_iadd C0 dX10_passOneTick_32 ?_
        refine z_invVv (As := [.int (zI ((((zTkC (zTkB (zBegs V))) 4) + 1) + 80))]) (rest := []) C0 Wd (ct_X1_openTick l g zX ad (zu M1_r5 b 7 (((zTkC (zTkB (zBegs V))) 4) + 1)) zF0 b hb ((((zTkC (zTkB (zBegs V))) 4) + 1) + 80) (by have q0 := hz9.1; have p0 := hz9.2; exact zR_mk (by omega) (by omega))) kv_X1_openTick (znB7 hb) (zE_0 (zkB7 hb)) rfl zk_766 rfl hl.1 rfl (Nat.le_of_ble_eq_true rfl) (by decide) (by decide) dX10_passOneTick_33 (fun zMr12 zFr12 H locs hp Wd => ?_)
        rcases hp with ⟨w_r12, hr12_0_0, rfl, rfl⟩
        · skip
          exact z_vret C0 Wd hret hlk (⟨_, (show zRS b (zTkD (zTkC (zTkB (zBegs V)))) _ _ from zR_tick hr5_0_0 hId hPd.2.1 (fun c x hc h0 h1 => by rw [hr12_0_0 c x hc h0 h1, zu_ne (by omega)])), zOut_w (zOut_u (zOut_tr (zOut_tr hr1_0_1 hr3_0_1) hr5_0_1) (by omega)) (by omega), rfl, rfl⟩) dX10_passOneTick_36
theorem kv_X10_letTicksPass : zKV yX10_letTicksPass cX10_letTicksPass 3 (some (.object "DrumWarren$Fault")) "DrumWarren$State" 1 := ⟨zk_684, zk_682, zk_683, zk_26, by decide, by decide, by decide +kernel⟩
set_option maxHeartbeats 4000000 in
set_option maxRecDepth 100000 in
theorem ct_X10_letTicksPass (l : Launch) (g : zG) (zX : va_W) (ad : Int → Nat) (zM0 zF0 : zMem) (b : Int) (hb : zB b) (V : Int → Int) (zt : Int) (x0 : Int) (hx0 : zR x0) (hR : zRS b V zM0 zF0) (hI : zIV zt V) (hTD : zTD V) (hP : zP0 V) (ht : zt ≤ 70000000) : zMt l yX10_letTicksPass cX10_letTicksPass 3 (some (.object "DrumWarren$Fault")) 6 0 0 g (0, 398, zX) ad [.ref (ad b), .int (zI x0)] zM0 zF0 (zPe g (fun r M' F' => zFt [3] (zdPT x0 V).1 r ∧ zRS b (zdPT x0 V).2.2 M' F' ∧ zOut b zM0 zF0 M' F')) := by
  refine zMt.of "DrumWarren$State" rfl (by decide +kernel) (Nat.le_of_ble_eq_true rfl) (fun {p e s m args below meth c ls} C0 Wd hl hret hlk hin => ?_)
  have hl : lv_has ls 3 [(0, .ref (ad b)), (1, .int (zI x0))] := hl
  have h0b := hI.1
  have h1b := hI.2.1
  have h2b := hI.2.2.1
  have hTb := hI.2.2.2.2.1
  have hbb := zB_bd hb
  refine z_iload_n C0 hl 1 rfl dX10_letTicksPass_0 ?_
  refine z_iconst C0 dX10_letTicksPass_1 ?_
  refine z_icmp_lt C0 (tgt := 11) hx0 (zR_mk (by decide) (by decide)) dX10_letTicksPass_2 (by decide) (fun c1 => ?_) (fun c1 => ?_)
  · skip
    refine z_gets C0 Wd (zc_F3 C0) zk_639 dX10_letTicksPass_11 ?_
    exact z_eret C0 Wd hret hlk (by have e : (zdPT x0 V) = ((1, 0, V) : zO) := (by unfold zdPT; first | (rw [if_pos (by first | assumption | omega)]; done) | (rw [if_neg (by first | assumption | omega), if_pos (by first | assumption | omega)]; done) | (rw [if_neg (by first | assumption | omega)]; done) | (rw [if_neg (by first | assumption | omega), if_neg (by first | assumption | omega), if_pos (by first | assumption | omega)]; done) | (rw [if_neg (by first | assumption | omega), if_neg (by first | assumption | omega)]; done) | (rw [if_neg (by first | assumption | omega), if_neg (by first | assumption | omega), if_neg (by first | assumption | omega)]; done)); rw [e]; exact ⟨rfl, hR, zOut_rf⟩) dX10_letTicksPass_14
  · skip
    refine z_iload_n C0 hl 1 rfl dX10_letTicksPass_5 ?_
    refine z_bipush C0 dX10_letTicksPass_6 (by decide) ?_
    refine z_icmp_le C0 (tgt := 15) hx0 (zR_mk (by decide) (by decide)) dX10_letTicksPass_8 (by decide) (fun c2 => ?_) (fun c2 => ?_)
    · skip
      refine z_iconst C0 dX10_letTicksPass_15 ?_
      refine z_istore_n C0 hl [(2, .int (zI 0)), (0, .ref (ad b)), (1, .int (zI x0))] (by decide) rfl dX10_letTicksPass_16 (fun ls hl => ?_)
      have aft17 : ∀ (k17 : Nat) (hk17 : (k17 : Int) ≤ x0) (M2 : zMem) (w2 : Int → Int) (hw : w2 = zTks k17 V) (hr2 : zRS b w2 M2 zF0) (ho2 : zOut b zM0 zF0 M2 zF0) (hx17 : (k17 : Int) = x0) (H : Heap) (locs : List Loc) (ls : Array Slot) (Wd : zW g (zA (0, 398, zX) ad s.heap.size) s.heap (0, 398, zX) ad M2 zF0 H locs) (hl : lv_has ls 3 [(0, .ref (ad b)), (1, .int (zI x0)), (2, .int (zI (k17 : Int)))]), W p l e (zrm 6 0 0) s m args below meth c H locs 0 0 (zMQ below g (0, 398, zX) ad (zPe g (fun r M' F' => zFt [3] (zdPT x0 V).1 r ∧ zRS b (zdPT x0 V).2.2 M' F' ∧ zOut b zM0 zF0 M' F')) args s 0 0) (F0 m 32 ls []) := by
        intro k17 hk17 M2 w2 hw hr2 ho2 hx17 H locs ls Wd hl
        replace hl : lv_has ls 3 [(0, .ref (ad b)), (1, .int (zI x0))] := lv_sub hl [0, 1] rfl
        obtain ⟨hI2, hTD2, hk2, hk4⟩ := zTks_keep hI hTD k17
        have hP2 := zTks_pk hI hTD hP k17
        rw [← hw] at hI2 hTD2 hk2 hk4 hP2
        have ek : k17 = x0.toNat := by omega
        subst ek
        refine z_gets C0 Wd (zc_F0 C0) zk_620 dX10_letTicksPass_32 ?_
        exact z_eret C0 Wd hret hlk (by have e : zdPT x0 V = ((0, zTks x0.toNat V 6 - V 6, zTks x0.toNat V) : zO) := (by unfold zdPT; rw [if_neg (by omega)]); rw [e]; exact ⟨rfl, by rw [← hw]; exact hr2, ho2⟩) dX10_letTicksPass_35
      have lp17 : ∀ (d17 k17 : Nat) (hk17 : (k17 : Int) + d17 = x0) (M2 : zMem) (w2 : Int → Int) (hw : w2 = zTks k17 V) (hr2 : zRS b w2 M2 zF0) (ho2 : zOut b zM0 zF0 M2 zF0) (H : Heap) (locs : List Loc) (ls : Array Slot) (Wd : zW g (zA (0, 398, zX) ad s.heap.size) s.heap (0, 398, zX) ad M2 zF0 H locs) (hl : lv_has ls 3 [(0, .ref (ad b)), (1, .int (zI x0)), (2, .int (zI (k17 : Int)))]), W p l e (zrm 6 0 0) s m args below meth c H locs 0 0 (zMQ below g (0, 398, zX) ad (zPe g (fun r M' F' => zFt [3] (zdPT x0 V).1 r ∧ zRS b (zdPT x0 V).2.2 M' F' ∧ zOut b zM0 zF0 M' F')) args s 0 0) (F0 m 17 ls []) := by
        intro d17
        induction d17 with
        | zero =>
          intro k17 hk17 M2 w2 hw hr2 ho2 H locs ls Wd hl
          obtain ⟨hI2, hTD2, hk2, hk4⟩ := zTks_keep hI hTD k17
          have hP2 := zTks_pk hI hTD hP k17
          rw [← hw] at hI2 hTD2 hk2 hk4 hP2
          refine z_iload_n C0 hl 2 rfl dX10_letTicksPass_17 ?_
          refine z_iload_n C0 hl 1 rfl dX10_letTicksPass_18 ?_
          refine z_icmp_ge C0 (tgt := 32) (zR_mk (by omega) (by omega)) hx0 dX10_letTicksPass_19 (by decide) (fun c3 => ?_) (fun c3 => ?_)
          · skip
            first | exact aft17 k17 (by omega) M2 w2 hw hr2 ho2 (by first | assumption | omega) _ _ _ Wd (lv_sub hl [0, 1, 2] rfl) | (exfalso; omega)
          · skip
            exfalso; omega
        | succ d17 ih17 =>
          intro k17 hk17 M2 w2 hw hr2 ho2 H locs ls Wd hl
          obtain ⟨hI2, hTD2, hk2, hk4⟩ := zTks_keep hI hTD k17
          have hP2 := zTks_pk hI hTD hP k17
          rw [← hw] at hI2 hTD2 hk2 hk4 hP2
          refine z_iload_n C0 hl 2 rfl dX10_letTicksPass_17 ?_
          refine z_iload_n C0 hl 1 rfl dX10_letTicksPass_18 ?_
          refine z_icmp_ge C0 (tgt := 32) (zR_mk (by omega) (by omega)) hx0 dX10_letTicksPass_19 (by decide) (fun c4 => ?_) (fun c4 => ?_)
          · skip
            first | exact aft17 k17 (by omega) M2 w2 hw hr2 ho2 (by first | assumption | omega) _ _ _ Wd (lv_sub hl [0, 1, 2] rfl) | (exfalso; omega)
          · skip
            refine z_aload_n C0 hl 0 rfl dX10_letTicksPass_22 ?_
            refine z_invVv (As := []) (rest := []) C0 Wd (ct_X10_passOneTick l g zX ad M2 zF0 b hb w2 (zt + 17 * (k17 : Int)) hr2 hI2 hTD2 hP2 (by omega)) kv_X10_passOneTick (znB0 hb) (zE_7 (zkB0 hb)) rfl zk_685 rfl hl.1 rfl (Nat.le_of_ble_eq_true rfl) (by decide) (by decide) dX10_letTicksPass_23 (fun zMr5 zFr5 H locs hp Wd => ?_)
            rcases hp with ⟨M1_r5, hr5_0_0, hr5_0_1, rfl, rfl⟩
            · skip
              refine z_iinc C0 hl 2 (t := (k17 : Int)) (u := ((k17 : Int) + 1)) rfl (by omega) [(2, .int (zI ((k17 : Int) + 1))), (0, .ref (ad b)), (1, .int (zI x0))] (by decide) rfl dX10_letTicksPass_26 (fun ls hl => ?_)
              refine z_goto C0 (tgt := 17) dX10_letTicksPass_29 (by decide) ?_
              exact ih17 (k17 + 1) (by omega) M1_r5 (zTick w2) (by show _ = zTick (zTks k17 V); rw [← hw]) hr5_0_0 (zOut_tr ho2 hr5_0_1) _ _ _ Wd (lv_sub hl [1, 2, 0] rfl)
      exact lp17 (x0).toNat 0 (by omega) zM0 V rfl hR zOut_rf _ _ _ Wd (lv_sub hl [1, 2, 0] rfl)
    · skip
      refine z_gets C0 Wd (zc_F3 C0) zk_639 dX10_letTicksPass_11 ?_
      exact z_eret C0 Wd hret hlk (by have e : (zdPT x0 V) = ((1, 0, V) : zO) := (by unfold zdPT; first | (rw [if_pos (by first | assumption | omega)]; done) | (rw [if_neg (by first | assumption | omega), if_pos (by first | assumption | omega)]; done) | (rw [if_neg (by first | assumption | omega)]; done) | (rw [if_neg (by first | assumption | omega), if_neg (by first | assumption | omega), if_pos (by first | assumption | omega)]; done) | (rw [if_neg (by first | assumption | omega), if_neg (by first | assumption | omega)]; done) | (rw [if_neg (by first | assumption | omega), if_neg (by first | assumption | omega), if_neg (by first | assumption | omega)]; done)); rw [e]; exact ⟨rfl, hR, zOut_rf⟩) dX10_letTicksPass_14
theorem kv_X10_isDrummedByOneEach : zKV yX10_isDrummedByOneEach cX10_isDrummedByOneEach 5 (some .boolean) "DrumWarren$State" 0 := ⟨zk_1431, zk_1429, zk_1430, zk_26, by decide, by decide, by decide +kernel⟩
set_option maxHeartbeats 4000000 in
set_option maxRecDepth 100000 in
theorem ct_X10_isDrummedByOneEach (l : Launch) (g : zG) (zX : va_W) (ad : Int → Nat) (zM0 zF0 : zMem) (b : Int) (hb : zB b) (V : Int → Int) (zt : Int) (hR : zRS b V zM0 zF0) (hI : zIV zt V) (hO : zOne V) : zMt l yX10_isDrummedByOneEach cX10_isDrummedByOneEach 5 (some .boolean) 2 0 0 g (0, 398, zX) ad [.ref (ad b)] zM0 zF0 (zPi (fun r M' F' => 1 = r ∧ zM0 = M' ∧ zF0 = F')) := by
  refine zMt.of "DrumWarren$State" rfl (by decide +kernel) (Nat.le_of_ble_eq_true rfl) (fun {p e s m args below meth c ls} C0 Wd hl hret hlk hin => ?_)
  have hl : lv_has ls 5 [(0, .ref (ad b))] := hl
  have h0b := hI.1
  have h1b := hI.2.1
  have h2b := hI.2.2.1
  have hbb := zB_bd hb
  refine z_iconst C0 dX10_isDrummedByOneEach_0 ?_
  refine z_istore_n C0 hl [(1, .int (zI 0)), (0, .ref (ad b))] (by decide) rfl dX10_isDrummedByOneEach_1 (fun ls hl => ?_)
  refine z_iconst C0 dX10_isDrummedByOneEach_2 ?_
  refine z_istore_n C0 hl [(2, .int (zI 0)), (1, .int (zI 0)), (0, .ref (ad b))] (by decide) rfl dX10_isDrummedByOneEach_3 (fun ls hl => ?_)
  have aft4 : ∀ (k4 : Nat) (hk4 : (k4 : Int) ≤ (V 2)) (u1 : Int) (hu1 : 0 ≤ u1 ∧ u1 < 256) (hu2 : ∀ c, zc8 c → zbi u1 c = 1 → ∃ q, 0 ≤ q ∧ q < (k4 : Int) ∧ V (96 + 47 * q + 4) = 100 ∧ zhm V q = c) (hx4 : (k4 : Int) = (V 2)) (H : Heap) (locs : List Loc) (ls : Array Slot) (Wd : zW g (zA (0, 398, zX) ad s.heap.size) s.heap (0, 398, zX) ad zM0 zF0 H locs) (hl : lv_has ls 5 [(0, .ref (ad b)), (1, .int (zI u1)), (2, .int (zI (k4 : Int)))]), W p l e (zrm 2 0 0) s m args below meth c H locs 0 0 (zMQ below g (0, 398, zX) ad (zPi (fun r M' F' => 1 = r ∧ zM0 = M' ∧ zF0 = F')) args s 0 0) (F0 m 60 ls []) := by
    intro k4 hk4 u1 hu1 hu2 hx4 H locs ls Wd hl
    replace hl : lv_has ls 5 [(0, .ref (ad b)), (1, .int (zI u1))] := lv_sub hl [0, 1] rfl
    refine z_iconst C0 dX10_isDrummedByOneEach_60 ?_
    exact z_zret C0 Wd hret hlk (by decide) ⟨by first | rfl | (simp only [zb]; first | rfl | (split <;> omega) | omega) | (simp [zb, *]; done) | omega, by first | rfl | (simp [zb, *]; done), rfl⟩ dX10_isDrummedByOneEach_61
  have lp4 : ∀ (d4 k4 : Nat) (hk4 : (k4 : Int) + d4 = (V 2)) (u1 : Int) (hu1 : 0 ≤ u1 ∧ u1 < 256) (hu2 : ∀ c, zc8 c → zbi u1 c = 1 → ∃ q, 0 ≤ q ∧ q < (k4 : Int) ∧ V (96 + 47 * q + 4) = 100 ∧ zhm V q = c) (H : Heap) (locs : List Loc) (ls : Array Slot) (Wd : zW g (zA (0, 398, zX) ad s.heap.size) s.heap (0, 398, zX) ad zM0 zF0 H locs) (hl : lv_has ls 5 [(0, .ref (ad b)), (1, .int (zI u1)), (2, .int (zI (k4 : Int)))]), W p l e (zrm 2 0 0) s m args below meth c H locs 0 0 (zMQ below g (0, 398, zX) ad (zPi (fun r M' F' => 1 = r ∧ zM0 = M' ∧ zF0 = F')) args s 0 0) (F0 m 4 ls []) := by
    intro d4
    induction d4 with
    | zero =>
      intro k4 hk4 u1 hu1 hu2 H locs ls Wd hl
      refine z_iload_n C0 hl 2 rfl dX10_isDrummedByOneEach_4 ?_
      refine z_aload_n C0 hl 0 rfl dX10_isDrummedByOneEach_5 ?_
      refine zg_7_4 C0 Wd (znB0 hb) (zkB0 hb) zk_200 dX10_isDrummedByOneEach_6 ?_
      obtain ⟨he2, hz1⟩ : (zM0 b 4) = (V 2) ∧ zR (V 2) := (fun q => ⟨q, q ▸ Wd.rm _ _⟩) hR.c4
      refine z_top (congrArg zI he2) ?_
      clear he2
      refine z_icmp_ge C0 (tgt := 60) (zR_mk (by omega) (by omega)) hz1 dX10_isDrummedByOneEach_9 (by decide) (fun c3 => ?_) (fun c3 => ?_)
      · skip
        first | exact aft4 k4 (by omega) u1 hu1 hu2 (by first | assumption | omega) _ _ _ Wd (lv_sub hl [0, 1, 2] rfl) | (exfalso; omega)
      · skip
        exfalso; omega
    | succ d4 ih4 =>
      intro k4 hk4 u1 hu1 hu2 H locs ls Wd hl
      refine z_iload_n C0 hl 2 rfl dX10_isDrummedByOneEach_4 ?_
      refine z_aload_n C0 hl 0 rfl dX10_isDrummedByOneEach_5 ?_
      refine zg_7_4 C0 Wd (znB0 hb) (zkB0 hb) zk_200 dX10_isDrummedByOneEach_6 ?_
      obtain ⟨he5, hz4⟩ : (zM0 b 4) = (V 2) ∧ zR (V 2) := (fun q => ⟨q, q ▸ Wd.rm _ _⟩) hR.c4
      refine z_top (congrArg zI he5) ?_
      clear he5
      refine z_icmp_ge C0 (tgt := 60) (zR_mk (by omega) (by omega)) hz4 dX10_isDrummedByOneEach_9 (by decide) (fun c6 => ?_) (fun c6 => ?_)
      · skip
        first | exact aft4 k4 (by omega) u1 hu1 hu2 (by first | assumption | omega) _ _ _ Wd (lv_sub hl [0, 1, 2] rfl) | (exfalso; omega)
      · skip
        refine z_aload_n C0 hl 0 rfl dX10_isDrummedByOneEach_12 ?_
        refine zg_7_3 C0 Wd (znB0 hb) (zkB0 hb) zk_198 dX10_isDrummedByOneEach_13 ?_
        refine z_iload_n C0 hl 2 rfl dX10_isDrummedByOneEach_16 ?_
        refine z_aald16 C0 Wd (znB6 hb) (zkB6 hb) (zlB6 hb) (by omega) (by omega) (by decide) dX10_isDrummedByOneEach_17 ?_
        refine z_astore_n C0 hl [(3, .ref (ad (zF0 (b + 6) (k4 : Int)))), (0, .ref (ad b)), (1, .int (zI u1)), (2, .int (zI (k4 : Int)))] (by decide) rfl dX10_isDrummedByOneEach_18 (fun ls hl => ?_)
        refine z_aload_n C0 hl 0 rfl dX10_isDrummedByOneEach_19 ?_
        refine zg_6_4 C0 Wd (znO (hR.mo (by omega) (by omega))) (zkO (hR.mo (by omega) (by omega))) zk_167 dX10_isDrummedByOneEach_20 ?_
        obtain ⟨he8, hz7⟩ : (zM0 (zF0 (b + 6) (k4 : Int)) 4) = (V (96 + 47 * (k4 : Int) + 4)) ∧ zR (V (96 + 47 * (k4 : Int) + 4)) := (fun q => ⟨q, q ▸ Wd.rm _ _⟩) (hR.m4 (by omega) (by omega))
        refine z_top (congrArg zI he8) ?_
        clear he8
        refine z_bipush C0 dX10_isDrummedByOneEach_23 (by decide) ?_
        refine z_icmp_ne C0 (tgt := 54) hz7 (zR_mk (by decide) (by decide)) dX10_isDrummedByOneEach_25 (by decide) (fun c9 => ?_) (fun c9 => ?_)
        · skip
          refine z_iinc C0 hl 3 (t := (k4 : Int)) (u := ((k4 : Int) + 1)) rfl (by omega) [(2, .int (zI ((k4 : Int) + 1))), (3, .ref (ad (zF0 (b + 6) (k4 : Int)))), (0, .ref (ad b)), (1, .int (zI u1))] (by decide) rfl dX10_isDrummedByOneEach_54 (fun ls hl => ?_)
          refine z_goto C0 (tgt := 4) dX10_isDrummedByOneEach_57 (by decide) ?_
          exact ih4 (k4 + 1) (by omega) u1 hu1 (fun c hc z => by obtain ⟨q, q0, q1, q2, q3⟩ := hu2 c hc z; exact ⟨q, q0, by omega, q2, q3⟩) _ _ _ Wd (lv_sub hl [2, 3, 0] rfl)
        · skip
          have hm1 := (hI.2.2.2.2.2.2.1 (k4 : Int) (by omega) (by omega)).2.1
          have hc8 := (hI.2.2.2.2.2.1 _ hm1.1 hm1.2).1
          have hc9 : zc8 (V (72 + 4 * (V (96 + 47 * (k4 : Int) + 1)) + 0)) := ⟨hc8.1, Int.lt_of_lt_of_le hc8.2 h0b.2⟩
          have hs9 : V (96 + 47 * (k4 : Int) + 4) = 100 := by omega
          have hb0 : zbi u1 (V (72 + 4 * (V (96 + 47 * (k4 : Int) + 1)) + 0)) = 0 := by
              rcases zbi_01 u1 (V (72 + 4 * (V (96 + 47 * (k4 : Int) + 1)) + 0)) with z | z
              · exact z
              · obtain ⟨q, q0, q1, q2, q3⟩ := hu2 _ hc9 z
                exact absurd q3 (hO q (k4 : Int) q0 q1 (by omega) q2 hs9)
          have hz9 := zbit_and hu1 hc9
          have hx0 := hz9.2.1.mpr hb0
          refine z_iconst C0 dX10_isDrummedByOneEach_28 ?_
          refine z_aload_n C0 hl 1 rfl dX10_isDrummedByOneEach_29 ?_
          refine z_aload_n C0 hl 0 rfl dX10_isDrummedByOneEach_30 ?_
          refine zg_6_1 C0 Wd (znO (hR.mo (by omega) (by omega))) (zkO (hR.mo (by omega) (by omega))) zk_158 dX10_isDrummedByOneEach_31 ?_
          obtain ⟨he11, hz10⟩ : (zM0 (zF0 (b + 6) (k4 : Int)) 1) = (V (96 + 47 * (k4 : Int) + 1)) ∧ zR (V (96 + 47 * (k4 : Int) + 1)) := (fun q => ⟨q, q ▸ Wd.rm _ _⟩) (hR.m1 (by omega) (by omega))
          refine z_top (congrArg zI he11) ?_
          clear he11
          refine z_invVi (As := [.int (zI (V (96 + 47 * (k4 : Int) + 1)))]) (rest := [.int (zI 1)]) C0 Wd (ct_X10_placeOf l g zX ad zM0 zF0 b hb V zt (V (96 + 47 * (k4 : Int) + 1)) hz10 hR hI) kv_X10_placeOf (znB0 hb) (zE_7 (zkB0 hb)) rfl zk_697 rfl hl.1 rfl (Nat.le_of_ble_eq_true rfl) (by decide) (by decide) dX10_isDrummedByOneEach_34 (fun r12 zMr12 zFr12 H locs hrr12 hp Wd => ?_)
          rcases hp with ⟨hr12_0_0, rfl, rfl, rfl⟩ | ⟨hr12_1_0, rfl, rfl, rfl⟩
          · skip
            refine z_ishl C0 (v := (2 ^ (V (72 + 4 * (V (96 + 47 * (k4 : Int) + 1)) + 0)).toNat)) (zI_shl1 hc9) dX10_isDrummedByOneEach_37 ?_
            refine z_istore C0 hl [(4, .int (zI (2 ^ (V (72 + 4 * (V (96 + 47 * (k4 : Int) + 1)) + 0)).toNat))), (3, .ref (ad (zF0 (b + 6) (k4 : Int)))), (0, .ref (ad b)), (1, .int (zI u1)), (2, .int (zI (k4 : Int)))] (by decide) rfl dX10_isDrummedByOneEach_38 (fun ls hl => ?_)
            refine z_iload_n C0 hl 3 rfl dX10_isDrummedByOneEach_40 ?_
            refine z_iload C0 hl 0 rfl dX10_isDrummedByOneEach_41 ?_
            refine z_iand C0 (v := (zbi u1 (V (72 + 4 * (V (96 + 47 * (k4 : Int) + 1)) + 0)) * 2 ^ (V (72 + 4 * (V (96 + 47 * (k4 : Int) + 1)) + 0)).toNat)) (zbit_and hu1 hc9).1 dX10_isDrummedByOneEach_43 ?_
            refine z_if_eq C0 (tgt := 49) (by have q0 := hrr12.1; have p0 := hrr12.2; exact zR_mk (by omega) (by omega)) dX10_isDrummedByOneEach_44 (by decide) (fun c14 => ?_) (fun c14 => absurd c14 (fun z => z hx0))
            refine z_iload_n C0 hl 3 rfl dX10_isDrummedByOneEach_49 ?_
            refine z_iload C0 hl 0 rfl dX10_isDrummedByOneEach_50 ?_
            refine z_ior C0 (v := (u1 + 2 ^ (V (72 + 4 * (V (96 + 47 * (k4 : Int) + 1)) + 0)).toNat)) (zbit_or hu1 hc9 hb0) dX10_isDrummedByOneEach_52 ?_
            refine z_istore_n C0 hl [(1, .int (zI (u1 + 2 ^ (V (72 + 4 * (V (96 + 47 * (k4 : Int) + 1)) + 0)).toNat))), (4, .int (zI (2 ^ (V (72 + 4 * (V (96 + 47 * (k4 : Int) + 1)) + 0)).toNat))), (3, .ref (ad (zF0 (b + 6) (k4 : Int)))), (0, .ref (ad b)), (2, .int (zI (k4 : Int)))] (by decide) rfl dX10_isDrummedByOneEach_53 (fun ls hl => ?_)
            refine z_iinc C0 hl 4 (t := (k4 : Int)) (u := ((k4 : Int) + 1)) rfl (by omega) [(2, .int (zI ((k4 : Int) + 1))), (1, .int (zI (u1 + 2 ^ (V (72 + 4 * (V (96 + 47 * (k4 : Int) + 1)) + 0)).toNat))), (4, .int (zI (2 ^ (V (72 + 4 * (V (96 + 47 * (k4 : Int) + 1)) + 0)).toNat))), (3, .ref (ad (zF0 (b + 6) (k4 : Int)))), (0, .ref (ad b))] (by decide) rfl dX10_isDrummedByOneEach_54 (fun ls hl => ?_)
            refine z_goto C0 (tgt := 4) dX10_isDrummedByOneEach_57 (by decide) ?_
            exact ih4 (k4 + 1) (by omega) (u1 + 2 ^ (V (72 + 4 * (V (96 + 47 * (k4 : Int) + 1)) + 0)).toNat) (zbi_add hu1 hc9 hb0).2 (fun c hc z => by rw [(zbi_add hu1 hc9 hb0).1 c hc] at z; by_cases e : c = (V (72 + 4 * (V (96 + 47 * (k4 : Int) + 1)) + 0)) <;> first | exact ⟨(k4 : Int), by omega, by omega, hs9, e.symm⟩ | (rw [if_neg e] at z; obtain ⟨q, q0, q1, q2, q3⟩ := hu2 c hc z; exact ⟨q, q0, by omega, q2, q3⟩)) _ _ _ Wd (lv_sub hl [4, 1, 0] rfl)
          · skip
            exfalso; omega
  exact lp4 ((V 2)).toNat 0 (by omega) 0 (by omega) (fun c hc z => absurd z (by rw [show zbi 0 c = 0 from (by show 0 / 2 ^ c.toNat % 2 = 0; rw [Int.zero_ediv]; rfl)]; decide)) _ _ _ Wd (lv_sub hl [2, 1, 0] rfl)
