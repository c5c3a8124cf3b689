/-! the class: the history -/
theorem zR_8 {x : Int} (h : 0 ≤ x ∧ x ≤ 8) : zR x := ⟨by omega, by omega⟩
theorem zm8_bd {n : Int} (h : 0 ≤ n ∧ n ≤ 8) : 0 ≤ zm8 n ∧ zm8 n ≤ 8 := by
  unfold zm8
  split <;> omega
theorem kv_J9_min_7cf53 : zKS yJ9_min_7cf53 cJ9_min_7cf53 2 (some .int) 2 := ⟨zk_556, zk_555, zk_50, by decide, by decide, by decide +kernel⟩
set_option maxHeartbeats 4000000 in
set_option maxRecDepth 100000 in
theorem ct_J9_min_7cf53 (l : Launch) (g : zG) (N : zNs) (zb6 : zIn N 396) (zb7 : zIn N 397) (ad : Int → Nat) (zM0 zF0 : zMem) (x0 : Int) (hx0 : zR x0) (x1 : Int) (hx1 : zR x1) : zMt l yJ9_min_7cf53 cJ9_min_7cf53 2 (some .int) 0 0 0 g N ad [.int (zI x0), .int (zI x1)] zM0 zF0 (zPi (fun r M' F' => (if x0 ≤ x1 then x0 else x1) = r ∧ zM0 = M' ∧ zF0 = F')) := by
  refine zMt.ofF "java/lang/Math" rfl (by decide +kernel) (Nat.le_of_ble_eq_true rfl) (fun {p e s m args below meth c ls} C0 Wd hl hret hlk hin => ?_)
  have hl : lv_has ls 2 [(0, .int (zI x0)), (1, .int (zI x1))] := hl
  refine z_iload_n C0 hl 0 rfl dJ9_min_7cf53_0 ?_
  refine z_iload_n C0 hl 1 rfl dJ9_min_7cf53_1 ?_
  refine z_icmp_gt C0 (tgt := 9) hx0 hx1 dJ9_min_7cf53_2 (by decide) (fun c1 => ?_) (fun c1 => ?_)
  · skip
    refine z_iload_n C0 hl 1 rfl dJ9_min_7cf53_9 ?_
    exact z_iret C0 Wd hret hlk hx1 ⟨by rw [if_neg (by omega)], rfl, rfl⟩ dJ9_min_7cf53_10
  · skip
    refine z_iload_n C0 hl 0 rfl dJ9_min_7cf53_5 ?_
    refine z_goto C0 (tgt := 10) dJ9_min_7cf53_6 (by decide) ?_
    exact z_iret C0 Wd hret hlk hx0 ⟨by rw [if_pos (by omega)], rfl, rfl⟩ dJ9_min_7cf53_10
theorem kv_X8_prepare : zKV yX8_prepare cX8_prepare 2 none "DrumWarren$History" 1 := ⟨zk_385, zk_383, zk_384, zk_31, by decide, by decide, by decide +kernel⟩
set_option maxHeartbeats 4000000 in
set_option maxRecDepth 100000 in
theorem ct_X8_prepare (l : Launch) (g : zG) (zX : va_W) (ad : Int → Nat) (zM0 zF0 : zMem) (b : Int) (hb : zB b) (V : Int → Int) (zt : Int) (hR : zRS b V zM0 zF0) (hI : zIV zt V) (hn : 0 ≤ zM0 94 1 ∧ zM0 94 1 ≤ 8) (hpp : zRp (96 + 31 * zM0 94 1) zF0) (hd : b + 31 ≤ 94) : zMt l yX8_prepare cX8_prepare 2 none 4 0 0 g (0, 398, zX) ad [.ref (ad 94), .ref (ad b)] zM0 zF0 (zPv (fun M' F' => (∃ M1 : zMem, (zRS (96 + 31 * zM0 94 1) V M1 zF0) ∧ (zOut (96 + 31 * zM0 94 1) zM0 zF0 M1 zF0) ∧ M1 = M' ∧ zF0 = F'))) := by
  refine zMt.of "DrumWarren$History" rfl (by decide +kernel) (Nat.le_of_ble_eq_true rfl) (fun {p e s m args below meth c ls} C0 Wd hl hret hlk hin => ?_)
  have hl : lv_has ls 2 [(0, .ref (ad 94)), (1, .ref (ad b))] := hl
  have hbb := zB_bd hb
  refine z_aload_n C0 hl 0 rfl dX8_prepare_0 ?_
  refine zg_5_0 C0 Wd zN94 zK94 zk_246 dX8_prepare_1 ?_
  refine z_rf (show (94 + 1) = 95 by decide) ?_
  refine z_aload_n C0 hl 0 rfl dX8_prepare_4 ?_
  refine zg_5_1 C0 Wd zN94 zK94 zk_247 dX8_prepare_5 ?_
  have hz1 : zR (zM0 94 1) := Wd.rm _ _
  refine z_aald17 C0 Wd zN95 zK95 zL95 (by omega) (by omega) (by decide) dX8_prepare_8 ?_
  refine z_rf (show (95 + 1 + 31 * (zM0 94 1)) = (96 + 31 * (zM0 94 1)) by omega) ?_
  refine z_aload_n C0 hl 1 rfl dX8_prepare_9 ?_
  refine z_invVv (As := [.ref (ad b)]) (rest := []) C0 Wd (ct_X10_copyFrom l g zX ad zM0 zF0 (96 + 31 * (zM0 94 1)) b (zB_H (by omega) (by omega)) hb V zt hR hI hpp (by omega)) kv_X10_copyFrom (znB0 (zB_H (by omega) (by omega))) (zE_7 (zkB0 (zB_H (by omega) (by omega)))) rfl zk_386 rfl hl.1 rfl (Nat.le_of_ble_eq_true rfl) (by decide) (by decide) dX8_prepare_10 (fun zMr2 zFr2 H locs hp Wd => ?_)
  rcases hp with ⟨M1_r2, hr2_0_0, hr2_0_1, rfl, rfl⟩
  · skip
    exact z_vret C0 Wd hret hlk (by first | exact ⟨_, (by first | assumption | omega), (by first | assumption | omega), (by first | rfl | (simp [zb, *]; done)), rfl⟩) dX8_prepare_13
theorem kv_X8_copyPreparedTo : zKV yX8_copyPreparedTo cX8_copyPreparedTo 2 none "DrumWarren$History" 1 := ⟨zk_1604, zk_1602, zk_1603, zk_31, by decide, by decide, by decide +kernel⟩
set_option maxHeartbeats 4000000 in
set_option maxRecDepth 100000 in
theorem ct_X8_copyPreparedTo (l : Launch) (g : zG) (zX : va_W) (ad : Int → Nat) (zM0 zF0 : zMem) (b : Int) (hb : zB b) (V : Int → Int) (zt : Int) (hR : zRS (96 + 31 * zM0 94 1) V zM0 zF0) (hI : zIV zt V) (hn : 0 ≤ zM0 94 1 ∧ zM0 94 1 ≤ 8) (hpp : zRp b zF0) (hd : b + 31 ≤ 94) : zMt l yX8_copyPreparedTo cX8_copyPreparedTo 2 none 4 0 0 g (0, 398, zX) ad [.ref (ad 94), .ref (ad b)] zM0 zF0 (zPv (fun M' F' => (∃ M1 : zMem, (zRS b V M1 zF0) ∧ (zOut b zM0 zF0 M1 zF0) ∧ M1 = M' ∧ zF0 = F'))) := by
  refine zMt.of "DrumWarren$History" rfl (by decide +kernel) (Nat.le_of_ble_eq_true rfl) (fun {p e s m args below meth c ls} C0 Wd hl hret hlk hin => ?_)
  have hl : lv_has ls 2 [(0, .ref (ad 94)), (1, .ref (ad b))] := hl
  have hbb := zB_bd hb
  refine z_aload_n C0 hl 1 rfl dX8_copyPreparedTo_0 ?_
  refine z_aload_n C0 hl 0 rfl dX8_copyPreparedTo_1 ?_
  refine zg_5_0 C0 Wd zN94 zK94 zk_246 dX8_copyPreparedTo_2 ?_
  refine z_rf (show (94 + 1) = 95 by decide) ?_
  refine z_aload_n C0 hl 0 rfl dX8_copyPreparedTo_5 ?_
  refine zg_5_1 C0 Wd zN94 zK94 zk_247 dX8_copyPreparedTo_6 ?_
  have hz1 : zR (zM0 94 1) := Wd.rm _ _
  refine z_aald17 C0 Wd zN95 zK95 zL95 (by omega) (by omega) (by decide) dX8_copyPreparedTo_9 ?_
  refine z_rf (show (95 + 1 + 31 * (zM0 94 1)) = (96 + 31 * (zM0 94 1)) by omega) ?_
  refine z_invVv (As := [.ref (ad (96 + 31 * (zM0 94 1)))]) (rest := []) C0 Wd (ct_X10_copyFrom l g zX ad zM0 zF0 b (96 + 31 * (zM0 94 1)) hb (zB_H (by omega) (by omega)) V zt hR hI hpp (by omega)) kv_X10_copyFrom (znB0 hb) (zE_7 (zkB0 hb)) rfl zk_386 rfl hl.1 rfl (Nat.le_of_ble_eq_true rfl) (by decide) (by decide) dX8_copyPreparedTo_10 (fun zMr2 zFr2 H locs hp Wd => ?_)
  rcases hp with ⟨M1_r2, hr2_0_0, hr2_0_1, rfl, rfl⟩
  · skip
    exact z_vret C0 Wd hret hlk (by first | exact ⟨_, (by first | assumption | omega), (by first | assumption | omega), (by first | rfl | (simp [zb, *]; done)), rfl⟩) dX8_copyPreparedTo_13
theorem kv_X8_keep : zKV yX8_keep cX8_keep 1 none "DrumWarren$History" 0 := ⟨zk_553, zk_551, zk_552, zk_31, by decide, by decide, by decide +kernel⟩
set_option maxHeartbeats 4000000 in
set_option maxRecDepth 100000 in
theorem ct_X8_keep (l : Launch) (g : zG) (zX : va_W) (ad : Int → Nat) (zM0 zF0 : zMem) (hn : 0 ≤ zM0 94 1 ∧ zM0 94 1 ≤ 8) (hk : 0 ≤ zM0 94 2 ∧ zM0 94 2 ≤ 8) : zMt l yX8_keep cX8_keep 1 none 1 0 0 g (0, 398, zX) ad [.ref (ad 94)] zM0 zF0 (zPv (fun M' F' => (zu (zu zM0 94 1 (znx (zM0 94 1))) 94 2 (zm8 (zM0 94 2))) = M' ∧ zF0 = F')) := by
  refine zMt.of "DrumWarren$History" rfl (by decide +kernel) (Nat.le_of_ble_eq_true rfl) (fun {p e s m args below meth c ls} C0 Wd hl hret hlk hin => ?_)
  have hl : lv_has ls 1 [(0, .ref (ad 94))] := hl
  have hnb := znx_bd hn
  refine z_aload_n C0 hl 0 rfl dX8_keep_0 ?_
  refine z_aload_n C0 hl 0 rfl dX8_keep_1 ?_
  refine zg_5_1 C0 Wd zN94 zK94 zk_247 dX8_keep_2 ?_
  have hz1 : zR (zM0 94 1) := Wd.rm _ _
  refine z_bipush C0 dX8_keep_5 (by decide) ?_
  refine z_icmp_ne C0 (tgt := 14) hz1 (zR_mk (by decide) (by decide)) dX8_keep_7 (by decide) (fun c2 => ?_) (fun c2 => ?_)
  · skip
    refine z_aload_n C0 hl 0 rfl dX8_keep_14 ?_
    refine zg_5_1 C0 Wd zN94 zK94 zk_247 dX8_keep_15 ?_
    have hz3 : zR (zM0 94 1) := Wd.rm _ _
    refine z_iconst C0 dX8_keep_18 ?_
    refine z_iadd C0 dX8_keep_19 ?_
    refine z_top (congrArg zI (show ((zM0 94 1) + 1) = (znx (zM0 94 1)) by unfold znx; rw [if_neg (by omega)])) ?_
    refine zp_5_1 C0 Wd zN94 zK94 (zR_8 hnb) zk_247 dX8_keep_20 (fun H locs Wd => ?_)
    refine z_aload_n C0 hl 0 rfl dX8_keep_23 ?_
    refine z_aload_n C0 hl 0 rfl dX8_keep_24 ?_
    refine zg_5_2 C0 Wd zN94 zK94 zk_248 dX8_keep_25 ?_
    obtain ⟨he6, hz4⟩ : ((zu zM0 94 1 (znx (zM0 94 1))) 94 2) = (zM0 94 2) ∧ zR (zM0 94 2) := (fun q => ⟨q, q ▸ Wd.rm _ _⟩) (zu_ne (by omega))
    refine z_top (congrArg zI he6) ?_
    clear he6
    refine z_iconst C0 dX8_keep_28 ?_
    refine z_iadd C0 dX8_keep_29 ?_
    refine z_bipush C0 dX8_keep_30 (by decide) ?_
    refine z_invSi (As := [.int (zI ((zM0 94 2) + 1)), .int (zI 8)]) (rest := [.ref (ad 94)]) C0 Wd (ct_J9_min_7cf53 l g (0, 398, zX) zN396 zN397 ad (zu zM0 94 1 (znx (zM0 94 1))) zF0 ((zM0 94 2) + 1) (by have q0 := hz4.1; have p0 := hz4.2; exact zR_mk (by omega) (by omega)) 8 (zR_mk (by decide) (by decide))) kv_J9_min_7cf53 zk_554 rfl hl.1 rfl (Nat.le_of_ble_eq_true rfl) (by decide) (by decide) dX8_keep_32 (fun r7 zMr7 zFr7 H locs hrr7 hp Wd => ?_)
    obtain ⟨rfl, rfl, rfl⟩ := hp
    refine z_top (congrArg zI (show (if ((zM0 94 2) + 1) ≤ 8 then ((zM0 94 2) + 1) else 8) = (zm8 (zM0 94 2)) from rfl)) ?_
    refine zp_5_2 C0 Wd zN94 zK94 (zR_8 (zm8_bd hk)) zk_248 dX8_keep_35 (fun H locs Wd => ?_)
    exact z_vret C0 Wd hret hlk ⟨by first | rfl | (simp [zb, *]; done), rfl⟩ dX8_keep_38
  · skip
    refine z_iconst C0 dX8_keep_10 ?_
    refine z_goto C0 (tgt := 20) dX8_keep_11 (by decide) ?_
    refine z_top (congrArg zI (show 0 = (znx (zM0 94 1)) by unfold znx; rw [if_pos (by omega)])) ?_
    refine zp_5_1 C0 Wd zN94 zK94 (zR_8 hnb) zk_247 dX8_keep_20 (fun H locs Wd => ?_)
    refine z_aload_n C0 hl 0 rfl dX8_keep_23 ?_
    refine z_aload_n C0 hl 0 rfl dX8_keep_24 ?_
    refine zg_5_2 C0 Wd zN94 zK94 zk_248 dX8_keep_25 ?_
    obtain ⟨he11, hz9⟩ : ((zu zM0 94 1 (znx (zM0 94 1))) 94 2) = (zM0 94 2) ∧ zR (zM0 94 2) := (fun q => ⟨q, q ▸ Wd.rm _ _⟩) (zu_ne (by omega))
    refine z_top (congrArg zI he11) ?_
    clear he11
    refine z_iconst C0 dX8_keep_28 ?_
    refine z_iadd C0 dX8_keep_29 ?_
    refine z_bipush C0 dX8_keep_30 (by decide) ?_
    refine z_invSi (As := [.int (zI ((zM0 94 2) + 1)), .int (zI 8)]) (rest := [.ref (ad 94)]) C0 Wd (ct_J9_min_7cf53 l g (0, 398, zX) zN396 zN397 ad (zu zM0 94 1 (znx (zM0 94 1))) zF0 ((zM0 94 2) + 1) (by have q0 := hz9.1; have p0 := hz9.2; exact zR_mk (by omega) (by omega)) 8 (zR_mk (by decide) (by decide))) kv_J9_min_7cf53 zk_554 rfl hl.1 rfl (Nat.le_of_ble_eq_true rfl) (by decide) (by decide) dX8_keep_32 (fun r12 zMr12 zFr12 H locs hrr12 hp Wd => ?_)
    obtain ⟨rfl, rfl, rfl⟩ := hp
    refine z_top (congrArg zI (show (if ((zM0 94 2) + 1) ≤ 8 then ((zM0 94 2) + 1) else 8) = (zm8 (zM0 94 2)) from rfl)) ?_
    refine zp_5_2 C0 Wd zN94 zK94 (zR_8 (zm8_bd hk)) zk_248 dX8_keep_35 (fun H locs Wd => ?_)
    exact z_vret C0 Wd hret hlk ⟨by first | rfl | (simp [zb, *]; done), rfl⟩ dX8_keep_38
theorem kv_X8_takeBack : zKV yX8_takeBack cX8_takeBack 2 (some .boolean) "DrumWarren$History" 1 := ⟨zk_1620, zk_1618, zk_1619, zk_31, by decide, by decide, by decide +kernel⟩
set_option maxHeartbeats 4000000 in
set_option maxRecDepth 100000 in
theorem ct_X8_takeBack (l : Launch) (g : zG) (zX : va_W) (ad : Int → Nat) (zM0 zF0 : zMem) (b : Int) (hb : zB b) (V : Int → Int) (zt : Int) (hR : 0 < zM0 94 2 → zRS (96 + 31 * zpv (zM0 94 1)) V (zu (zu zM0 94 2 (zM0 94 2 - 1)) 94 1 (zpv (zM0 94 1))) zF0) (hI : 0 < zM0 94 2 → zIV zt V) (hn : 0 ≤ zM0 94 1 ∧ zM0 94 1 ≤ 8) (hk : 0 ≤ zM0 94 2 ∧ zM0 94 2 ≤ 8) (hpp : zRp b zF0) (hd : b + 31 ≤ 94) : zMt l yX8_takeBack cX8_takeBack 2 (some .boolean) 4 0 0 g (0, 398, zX) ad [.ref (ad 94), .ref (ad b)] zM0 zF0 (zPi (fun r M' F' => ((zM0 94 2 = 0) ∧ 0 = r ∧ zM0 = M' ∧ zF0 = F') ∨ (∃ M1 : zMem, (0 < zM0 94 2) ∧ (zRS b V M1 zF0) ∧ (zOut b (zu (zu zM0 94 2 (zM0 94 2 - 1)) 94 1 (zpv (zM0 94 1))) zF0 M1 zF0) ∧ 1 = r ∧ M1 = M' ∧ zF0 = F'))) := by
  refine zMt.of "DrumWarren$History" rfl (by decide +kernel) (Nat.le_of_ble_eq_true rfl) (fun {p e s m args below meth c ls} C0 Wd hl hret hlk hin => ?_)
  have hl : lv_has ls 2 [(0, .ref (ad 94)), (1, .ref (ad b))] := hl
  have hbb := zB_bd hb
  have hpb := zpv_bd hn
  refine z_aload_n C0 hl 0 rfl dX8_takeBack_0 ?_
  refine zg_5_2 C0 Wd zN94 zK94 zk_248 dX8_takeBack_1 ?_
  have hz1 : zR (zM0 94 2) := Wd.rm _ _
  refine z_if_ne C0 (tgt := 9) hz1 dX8_takeBack_4 (by decide) (fun c2 => ?_) (fun c2 => ?_)
  · skip
    refine z_aload_n C0 hl 0 rfl dX8_takeBack_9 ?_
    refine z_dup C0 rfl dX8_takeBack_10 ?_
    refine zg_5_2 C0 Wd zN94 zK94 zk_248 dX8_takeBack_11 ?_
    have hz3 : zR (zM0 94 2) := Wd.rm _ _
    refine z_iconst C0 dX8_takeBack_14 ?_
    refine z_isub C0 dX8_takeBack_15 ?_
    refine zp_5_2 C0 Wd zN94 zK94 (by have q0 := hz3.1; have p0 := hz3.2; exact zR_mk (by omega) (by omega)) zk_248 dX8_takeBack_16 (fun H locs Wd => ?_)
    refine z_aload_n C0 hl 0 rfl dX8_takeBack_19 ?_
    refine z_aload_n C0 hl 0 rfl dX8_takeBack_20 ?_
    refine zg_5_1 C0 Wd zN94 zK94 zk_247 dX8_takeBack_21 ?_
    obtain ⟨he6, hz4⟩ : ((zu zM0 94 2 ((zM0 94 2) - 1)) 94 1) = (zM0 94 1) ∧ zR (zM0 94 1) := (fun q => ⟨q, q ▸ Wd.rm _ _⟩) (zu_ne (by omega))
    refine z_top (congrArg zI he6) ?_
    clear he6
    refine z_if_ne C0 (tgt := 32) hz4 dX8_takeBack_24 (by decide) (fun c7 => ?_) (fun c7 => ?_)
    · skip
      refine z_aload_n C0 hl 0 rfl dX8_takeBack_32 ?_
      refine zg_5_1 C0 Wd zN94 zK94 zk_247 dX8_takeBack_33 ?_
      obtain ⟨he10, hz8⟩ : ((zu zM0 94 2 ((zM0 94 2) - 1)) 94 1) = (zM0 94 1) ∧ zR (zM0 94 1) := (fun q => ⟨q, q ▸ Wd.rm _ _⟩) (zu_ne (by omega))
      refine z_top (congrArg zI he10) ?_
      clear he10
      refine z_iconst C0 dX8_takeBack_36 ?_
      refine z_isub C0 dX8_takeBack_37 ?_
      refine z_top (congrArg zI (show ((zM0 94 1) - 1) = (zpv (zM0 94 1)) by unfold zpv; rw [if_neg (by omega)])) ?_
      refine zp_5_1 C0 Wd zN94 zK94 (zR_8 hpb) zk_247 dX8_takeBack_38 (fun H locs Wd => ?_)
      refine z_aload_n C0 hl 1 rfl dX8_takeBack_41 ?_
      refine z_aload_n C0 hl 0 rfl dX8_takeBack_42 ?_
      refine zg_5_0 C0 Wd zN94 zK94 zk_246 dX8_takeBack_43 ?_
      refine z_rf (show (94 + 1) = 95 by decide) ?_
      refine z_aload_n C0 hl 0 rfl dX8_takeBack_46 ?_
      refine zg_5_1 C0 Wd zN94 zK94 zk_247 dX8_takeBack_47 ?_
      obtain ⟨he13, hz11⟩ : ((zu (zu zM0 94 2 ((zM0 94 2) - 1)) 94 1 (zpv (zM0 94 1))) 94 1) = (zpv (zM0 94 1)) ∧ zR (zpv (zM0 94 1)) := (fun q => ⟨q, q ▸ Wd.rm _ _⟩) (zu_same _ _ _ _)
      refine z_top (congrArg zI he13) ?_
      clear he13
      refine z_aald17 C0 Wd zN95 zK95 zL95 (by omega) (by omega) (by decide) dX8_takeBack_50 ?_
      refine z_rf (show (95 + 1 + 31 * (zpv (zM0 94 1))) = (96 + 31 * (zpv (zM0 94 1))) by omega) ?_
      refine z_invVv (As := [.ref (ad (96 + 31 * (zpv (zM0 94 1))))]) (rest := []) C0 Wd (ct_X10_copyFrom l g zX ad (zu (zu zM0 94 2 ((zM0 94 2) - 1)) 94 1 (zpv (zM0 94 1))) zF0 b (96 + 31 * (zpv (zM0 94 1))) hb (zB_H (by omega) (by omega)) V zt (hR (by omega)) (hI (by omega)) hpp (by omega)) kv_X10_copyFrom (znB0 hb) (zE_7 (zkB0 hb)) rfl zk_386 rfl hl.1 rfl (Nat.le_of_ble_eq_true rfl) (by decide) (by decide) dX8_takeBack_51 (fun zMr14 zFr14 H locs hp Wd => ?_)
      rcases hp with ⟨M1_r14, hr14_0_0, hr14_0_1, rfl, rfl⟩
      · skip
        refine z_iconst C0 dX8_takeBack_54 ?_
        exact z_zret C0 Wd hret hlk (by decide) (by first | exact (Or.inl ⟨(by first | assumption | omega), (by first | rfl | omega), (by first | rfl | (simp [zb, *]; done)), rfl⟩) | exact (Or.inr ⟨_, (by first | assumption | omega), (by first | assumption | omega), (by first | assumption | omega), (by first | rfl | omega), (by first | rfl | (simp [zb, *]; done)), rfl⟩)) dX8_takeBack_55
    · skip
      refine z_bipush C0 dX8_takeBack_27 (by decide) ?_
      refine z_goto C0 (tgt := 38) dX8_takeBack_29 (by decide) ?_
      refine z_top (congrArg zI (show 8 = (zpv (zM0 94 1)) by unfold zpv; rw [if_pos (by omega)])) ?_
      refine zp_5_1 C0 Wd zN94 zK94 (zR_8 hpb) zk_247 dX8_takeBack_38 (fun H locs Wd => ?_)
      refine z_aload_n C0 hl 1 rfl dX8_takeBack_41 ?_
      refine z_aload_n C0 hl 0 rfl dX8_takeBack_42 ?_
      refine zg_5_0 C0 Wd zN94 zK94 zk_246 dX8_takeBack_43 ?_
      refine z_rf (show (94 + 1) = 95 by decide) ?_
      refine z_aload_n C0 hl 0 rfl dX8_takeBack_46 ?_
      refine zg_5_1 C0 Wd zN94 zK94 zk_247 dX8_takeBack_47 ?_
      obtain ⟨he18, hz16⟩ : ((zu (zu zM0 94 2 ((zM0 94 2) - 1)) 94 1 (zpv (zM0 94 1))) 94 1) = (zpv (zM0 94 1)) ∧ zR (zpv (zM0 94 1)) := (fun q => ⟨q, q ▸ Wd.rm _ _⟩) (zu_same _ _ _ _)
      refine z_top (congrArg zI he18) ?_
      clear he18
      refine z_aald17 C0 Wd zN95 zK95 zL95 (by omega) (by omega) (by decide) dX8_takeBack_50 ?_
      refine z_rf (show (95 + 1 + 31 * (zpv (zM0 94 1))) = (96 + 31 * (zpv (zM0 94 1))) by omega) ?_
      refine z_invVv (As := [.ref (ad (96 + 31 * (zpv (zM0 94 1))))]) (rest := []) C0 Wd (ct_X10_copyFrom l g zX ad (zu (zu zM0 94 2 ((zM0 94 2) - 1)) 94 1 (zpv (zM0 94 1))) zF0 b (96 + 31 * (zpv (zM0 94 1))) hb (zB_H (by omega) (by omega)) V zt (hR (by omega)) (hI (by omega)) hpp (by omega)) kv_X10_copyFrom (znB0 hb) (zE_7 (zkB0 hb)) rfl zk_386 rfl hl.1 rfl (Nat.le_of_ble_eq_true rfl) (by decide) (by decide) dX8_takeBack_51 (fun zMr19 zFr19 H locs hp Wd => ?_)
      rcases hp with ⟨M1_r19, hr19_0_0, hr19_0_1, rfl, rfl⟩
      · skip
        refine z_iconst C0 dX8_takeBack_54 ?_
        exact z_zret C0 Wd hret hlk (by decide) (by first | exact (Or.inl ⟨(by first | assumption | omega), (by first | rfl | omega), (by first | rfl | (simp [zb, *]; done)), rfl⟩) | exact (Or.inr ⟨_, (by first | assumption | omega), (by first | assumption | omega), (by first | assumption | omega), (by first | rfl | omega), (by first | rfl | (simp [zb, *]; done)), rfl⟩)) dX8_takeBack_55
  · skip
    refine z_iconst C0 dX8_takeBack_7 ?_
    exact z_zret C0 Wd hret hlk (by decide) (by first | exact (Or.inl ⟨(by first | assumption | omega), (by first | rfl | omega), (by first | rfl | (simp [zb, *]; done)), rfl⟩) | exact (Or.inr ⟨_, (by first | assumption | omega), (by first | assumption | omega), (by first | assumption | omega), (by first | rfl | omega), (by first | rfl | (simp [zb, *]; done)), rfl⟩)) dX8_takeBack_8
