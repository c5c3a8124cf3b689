/-! the StringBuilder -/
theorem kp_ensure : zKP yJ5_ensureCapacityInternal_d00df yJ5_isLatin1_aae02 cJ5_ensureCapacityInternal_d00df 3 none "java/lang/StringBuilder" 1 := ⟨zk_1023, zk_1022, ⟨zk_1054, rfl, List.mem_cons_self⟩, by decide +kernel, by decide, by decide, by decide +kernel⟩
theorem ks_isLatin1 : zKV yJ5_isLatin1_aae02 cJ5_isLatin1_aae02 1 (some .boolean) "java/lang/StringBuilder" 0 := ⟨zk_1055, zk_1052, zk_1054, by decide +kernel, by decide, by decide, by decide +kernel⟩
theorem ku_J5_append_3fe6f : zKU9 yJ5_append_3fe6f yJ5_isLatin1_aae02 cJ5_append_3fe6f 2 (some (.object "java/lang/AbstractStringBuilder")) "java/lang/StringBuilder" "java/lang/StringBuilder" 4 1 := ⟨zk_1254, zk_1253, ⟨by decide +kernel, by decide +kernel, zk_1054, rfl⟩, by decide +kernel, by decide, by decide, by decide, by decide +kernel⟩
theorem ku_J5_setLength_d00df : zKU9 yJ5_setLength_d00df yJ5_isLatin1_aae02 cJ5_setLength_d00df 2 none "java/lang/StringBuilder" "java/lang/StringBuilder" 4 1 := ⟨zk_1000, zk_999, ⟨by decide +kernel, by decide +kernel, zk_1054, rfl⟩, by decide +kernel, by decide, by decide, by decide, by decide +kernel⟩
theorem ku_J5_length_8abf5 : zKU9 yJ5_length_8abf5 yJ5_isLatin1_aae02 cJ5_length_8abf5 1 (some .int) "java/lang/StringBuilder" "java/lang/StringBuilder" 4 0 := ⟨zk_1174, zk_1168, ⟨by decide +kernel, by decide +kernel, zk_1054, rfl⟩, by decide +kernel, by decide, by decide, by decide, by decide +kernel⟩

theorem kv_J1_canEncode_fc78d : zKS yJ1_canEncode_fc78d cJ1_canEncode_fc78d 1 (some .boolean) 1 := ⟨zk_1257, zk_1256, zk_59, by decide, by decide, by decide +kernel⟩
set_option maxHeartbeats 4000000 in
set_option maxRecDepth 100000 in
theorem ct_J1_canEncode_fc78d (l : Launch) (g : zG) (N : zNs) (zb6 : zIn N 396) (zb7 : zIn N 397) (ad : Int → Nat) (zM0 zF0 : zMem) (x0 : Int) (hx0 : zR x0) (hch : 0 ≤ x0 ∧ x0 < 128) : zMt l yJ1_canEncode_fc78d cJ1_canEncode_fc78d 1 (some .boolean) 0 0 0 g N ad [.int (zI x0)] zM0 zF0 (zPi (fun r M' F' => 1 = r ∧ zM0 = M' ∧ zF0 = F')) := by
  refine zMt.of "java/lang/StringLatin1" rfl (by decide +kernel) (Nat.le_of_ble_eq_true rfl) (fun {p e s m args below meth c ls} C0 Wd hl hret hlk hin => ?_)
  have hl : lv_has ls 1 [(0, .int (zI x0))] := hl
  refine z_iload_n C0 hl 0 rfl dJ1_canEncode_fc78d_0 ?_
  refine z_sipush C0 dJ1_canEncode_fc78d_1 (by decide) ?_
  refine z_icmp_gt C0 (tgt := 11) hx0 (zR_mk (by decide) (by decide)) dJ1_canEncode_fc78d_4 (by decide) (fun c1 => absurd c1 (by omega)) (fun c1 => ?_)
  refine z_iconst C0 dJ1_canEncode_fc78d_7 ?_
  refine z_goto C0 (tgt := 12) dJ1_canEncode_fc78d_8 (by decide) ?_
  exact z_zret C0 Wd hret hlk (by decide) ⟨by first | rfl | (simp only [zb]; first | rfl | (split <;> omega) | omega) | (simp [zb, *]; done) | omega, by first | rfl | (simp [zb, *]; done), rfl⟩ dJ1_canEncode_fc78d_12
set_option maxHeartbeats 4000000 in
set_option maxRecDepth 100000 in
theorem ct_J5_isLatin1_aae02 (l : Launch) (g : zG) (N : zNs) (zb6 : zIn N 396) (zb7 : zIn N 397) (ad : Int → Nat) (zM0 zF0 : zMem) (hc : zM0 396 1 = 0) : zMt l yJ5_isLatin1_aae02 cJ5_isLatin1_aae02 1 (some .boolean) 0 0 0 g N ad [.ref (ad 396)] zM0 zF0 (zPi (fun r M' F' => 1 = r ∧ zM0 = M' ∧ zF0 = F')) := by
  refine zMt.of "java/lang/AbstractStringBuilder" rfl (by decide +kernel) (Nat.le_of_ble_eq_true rfl) (fun {p e s m args below meth c ls} C0 Wd hl hret hlk hin => ?_)
  have hl : lv_has ls 1 [(0, .ref (ad 396))] := hl
  refine z_gets C0 Wd (zc_cs C0) zk_319 dJ5_isLatin1_aae02_0 ?_
  refine z_top (show (1 : Int32) = zI 1 from rfl) ?_
  refine z_if_eq C0 (tgt := 17) (zR_mk (by decide) (by decide)) dJ5_isLatin1_aae02_3 (by decide) (fun h => absurd h (by decide)) (fun _ => ?_)
  refine z_aload_n C0 hl 0 rfl dJ5_isLatin1_aae02_6 ?_
  refine zg_10_1 C0 Wd zb6 zK396 zk_329 dJ5_isLatin1_aae02_7 ?_
  obtain ⟨he3, hz2⟩ : (zM0 396 1) = 0 ∧ zR 0 := (fun q => ⟨q, q ▸ Wd.rm _ _⟩) hc
  refine z_top (congrArg zI he3) ?_
  clear he3
  refine z_if_ne C0 (tgt := 17) hz2 dJ5_isLatin1_aae02_10 (by decide) (fun h => absurd h (by decide)) (fun _ => ?_)
  refine z_iconst C0 dJ5_isLatin1_aae02_13 ?_
  refine z_goto C0 (tgt := 18) dJ5_isLatin1_aae02_14 (by decide) ?_
  exact z_zret C0 Wd hret hlk (by decide) ⟨by first | rfl | (simp only [zb]; first | rfl | (split <;> omega) | omega) | (simp [zb, *]; done) | omega, by first | rfl | (simp [zb, *]; done), rfl⟩ dJ5_isLatin1_aae02_18
set_option maxHeartbeats 4000000 in
set_option maxRecDepth 100000 in
theorem ct_J5_ensureCapacityInternal_d00df (l : Launch) (g : zG) (N : zNs) (zb6 : zIn N 396) (zb7 : zIn N 397) (ad : Int → Nat) (zM0 zF0 : zMem) (x0 : Int) (hx0 : zR x0) (hc : zM0 396 1 = 0) (h16 : 0 ≤ x0 ∧ x0 ≤ 16) : zMt l yJ5_ensureCapacityInternal_d00df cJ5_ensureCapacityInternal_d00df 3 none 0 0 0 g N ad [.ref (ad 396), .int (zI x0)] zM0 zF0 (zPv (fun M' F' => zM0 = M' ∧ zF0 = F')) := by
  refine zMt.of "java/lang/AbstractStringBuilder" rfl (by decide +kernel) (Nat.le_of_ble_eq_true rfl) (fun {p e s m args below meth c ls} C0 Wd hl hret hlk hin => ?_)
  have hl : lv_has ls 3 [(0, .ref (ad 396)), (1, .int (zI x0))] := hl
  refine z_aload_n C0 hl 0 rfl dJ5_ensureCapacityInternal_d00df_0 ?_
  refine zg_10_0 C0 Wd zb6 zK396 zk_328 dJ5_ensureCapacityInternal_d00df_1 ?_
  refine z_rf (show (396 + 1) = 397 by decide) ?_
  refine z_blen C0 Wd zb7 zK397 zL397 dJ5_ensureCapacityInternal_d00df_4 ?_
  refine z_top (show zI ((16 : Nat) : Int) = zI 16 from rfl) ?_
  refine z_aload_n C0 hl 0 rfl dJ5_ensureCapacityInternal_d00df_5 ?_
  refine zg_10_1 C0 Wd zb6 zK396 zk_329 dJ5_ensureCapacityInternal_d00df_6 ?_
  obtain ⟨he2, hz1⟩ : (zM0 396 1) = 0 ∧ zR 0 := (fun q => ⟨q, q ▸ Wd.rm _ _⟩) hc
  refine z_top (congrArg zI he2) ?_
  clear he2
  refine z_ishr C0 (v := 16) (by decide) dJ5_ensureCapacityInternal_d00df_9 ?_
  refine z_istore_n C0 hl [(2, .int (zI 16)), (0, .ref (ad 396)), (1, .int (zI x0))] (by decide) rfl dJ5_ensureCapacityInternal_d00df_10 (fun ls hl => ?_)
  refine z_iload_n C0 hl 2 rfl dJ5_ensureCapacityInternal_d00df_11 ?_
  refine z_iload_n C0 hl 0 rfl dJ5_ensureCapacityInternal_d00df_12 ?_
  refine z_isub C0 dJ5_ensureCapacityInternal_d00df_13 ?_
  refine z_if_le C0 (tgt := 38) (by have q0 := hx0.1; have p0 := hx0.2; have q1 := hz1.1; have p1 := hz1.2; exact zR_mk (by omega) (by omega)) dJ5_ensureCapacityInternal_d00df_14 (by decide) (fun c3 => ?_) (fun c3 => absurd c3 (by omega))
  exact z_vret C0 Wd hret hlk ⟨by first | rfl | (simp [zb, *]; done), rfl⟩ dJ5_ensureCapacityInternal_d00df_38
set_option maxHeartbeats 4000000 in
set_option maxRecDepth 100000 in
theorem ct_J5_append_3fe6f (l : Launch) (g : zG) (N : zNs) (zb6 : zIn N 396) (zb7 : zIn N 397) (ad : Int → Nat) (zM0 zF0 : zMem) (x0 : Int) (hx0 : zR x0) (hc : zM0 396 1 = 0) (h3 : 0 ≤ zM0 396 3 ∧ zM0 396 3 < 16) (hch : 0 ≤ x0 ∧ x0 < 128) : zMt l yJ5_append_3fe6f cJ5_append_3fe6f 2 (some (.object "java/lang/AbstractStringBuilder")) 1 0 0 g N ad [.ref (ad 396), .int (zI x0)] zM0 zF0 (zPr ad (fun r M' F' => 396 = r ∧ (zu (zu zM0 396 3 (zM0 396 3 + 1)) 397 (zM0 396 3) x0) = M' ∧ zF0 = F')) := by
  refine zMt.of "java/lang/AbstractStringBuilder" rfl (by decide +kernel) (Nat.le_of_ble_eq_true rfl) (fun {p e s m args below meth c ls} C0 Wd hl hret hlk hin => ?_)
  have hl : lv_has ls 2 [(0, .ref (ad 396)), (1, .int (zI x0))] := hl
  refine z_aload_n C0 hl 0 rfl dJ5_append_3fe6f_0 ?_
  refine z_aload_n C0 hl 0 rfl dJ5_append_3fe6f_1 ?_
  refine zg_10_3 C0 Wd zb6 zK396 zk_332 dJ5_append_3fe6f_2 ?_
  have hz1 : zR (zM0 396 3) := Wd.rm _ _
  refine z_iconst C0 dJ5_append_3fe6f_5 ?_
  refine z_iadd C0 dJ5_append_3fe6f_6 ?_
  refine z_invP (As := [.int (zI ((zM0 396 3) + 1))]) (rest := []) C0 Wd (ct_J5_ensureCapacityInternal_d00df l g N zb6 zb7 ad zM0 zF0 ((zM0 396 3) + 1) (by have q0 := hz1.1; have p0 := hz1.2; exact zR_mk (by omega) (by omega)) (by omega) (by omega)) kp_ensure (zrecvW C0 Wd zb6 (zE_10 zK396) rfl) zk_1020 rfl hl.1 rfl (Nat.le_of_ble_eq_true rfl) (by decide) (by decide) dJ5_append_3fe6f_7 (z_kkv (fun zMr2 zFr2 H locs hp Wd => ?_))
  obtain ⟨rfl, rfl⟩ := hp
  refine z_aload_n C0 hl 0 rfl dJ5_append_3fe6f_10 ?_
  refine z_invO (As := []) (rest := []) C0 Wd (ct_J5_isLatin1_aae02 l g N zb6 zb7 ad zM0 zF0 (by omega)) ks_isLatin1 (zrecvW C0 Wd zb6 (zE_10 zK396) rfl) zk_1051 rfl hl.1 rfl (Nat.le_of_ble_eq_true rfl) (by decide) (by decide) dJ5_append_3fe6f_11 (z_kki (fun r4 zMr4 zFr4 H locs hrr4 hp Wd => ?_))
  obtain ⟨rfl, rfl, rfl⟩ := hp
  refine z_if_eq C0 (tgt := 45) (zR_mk (by decide) (by decide)) dJ5_append_3fe6f_14 (by decide) (fun h => absurd h (by decide)) (fun _ => ?_)
  refine z_iload_n C0 hl 1 rfl dJ5_append_3fe6f_17 ?_
  refine z_invSi (As := [.int (zI x0)]) (rest := []) C0 Wd (ct_J1_canEncode_fc78d l g N zb6 zb7 ad zM0 zF0 x0 hx0 (by omega)) kv_J1_canEncode_fc78d zk_1255 rfl hl.1 rfl (Nat.le_of_ble_eq_true rfl) (by decide) (by decide) dJ5_append_3fe6f_18 (fun r7 zMr7 zFr7 H locs hrr7 hp Wd => ?_)
  obtain ⟨rfl, rfl, rfl⟩ := hp
  refine z_if_eq C0 (tgt := 45) (zR_mk (by decide) (by decide)) dJ5_append_3fe6f_21 (by decide) (fun h => absurd h (by decide)) (fun _ => ?_)
  refine z_aload_n C0 hl 0 rfl dJ5_append_3fe6f_24 ?_
  refine zg_10_0 C0 Wd zb6 zK396 zk_328 dJ5_append_3fe6f_25 ?_
  refine z_rf (show (396 + 1) = 397 by decide) ?_
  refine z_aload_n C0 hl 0 rfl dJ5_append_3fe6f_28 ?_
  refine z_dup C0 rfl dJ5_append_3fe6f_29 ?_
  refine zg_10_3 C0 Wd zb6 zK396 zk_332 dJ5_append_3fe6f_30 ?_
  have hz10 : zR (zM0 396 3) := Wd.rm _ _
  refine z_dup_x1 C0 rfl rfl dJ5_append_3fe6f_33 ?_
  refine z_iconst C0 dJ5_append_3fe6f_34 ?_
  refine z_iadd C0 dJ5_append_3fe6f_35 ?_
  refine zp_10_3 C0 Wd zb6 zK396 (by have q0 := hz10.1; have p0 := hz10.2; exact zR_mk (by omega) (by omega)) zk_332 dJ5_append_3fe6f_36 (fun H locs Wd => ?_)
  refine z_iload_n C0 hl 1 rfl dJ5_append_3fe6f_39 ?_
  refine z_i2b C0 (by omega) (by omega) dJ5_append_3fe6f_40 ?_
  refine z_bast C0 Wd zb7 zK397 zL397 (by omega) (by omega) (by decide) (by omega) dJ5_append_3fe6f_41 (fun H locs Wd => ?_)
  refine z_goto C0 (tgt := 75) dJ5_append_3fe6f_42 (by decide) ?_
  refine z_aload_n C0 hl 0 rfl dJ5_append_3fe6f_75 ?_
  exact z_aret C0 Wd hret hlk ⟨by first | rfl | (simp only [zb]; first | rfl | (split <;> omega) | omega) | (simp [zb, *]; done) | omega, by first | rfl | (simp [zb, *]; done), rfl⟩ dJ5_append_3fe6f_76
theorem kv_J4_append_cf468 : zKV yJ4_append_cf468 cJ4_append_cf468 2 (some (.object "java/lang/StringBuilder")) "java/lang/StringBuilder" 1 := ⟨zk_1251, zk_1249, zk_1250, zk_37, by decide, by decide, by decide +kernel⟩
set_option maxHeartbeats 4000000 in
set_option maxRecDepth 100000 in
theorem ct_J4_append_cf468 (l : Launch) (g : zG) (N : zNs) (zb6 : zIn N 396) (zb7 : zIn N 397) (ad : Int → Nat) (zM0 zF0 : zMem) (x0 : Int) (hx0 : zR x0) (hc : zM0 396 1 = 0) (h3 : 0 ≤ zM0 396 3 ∧ zM0 396 3 < 16) (hch : 0 ≤ x0 ∧ x0 < 128) : zMt l yJ4_append_cf468 cJ4_append_cf468 2 (some (.object "java/lang/StringBuilder")) 2 0 0 g N ad [.ref (ad 396), .int (zI x0)] zM0 zF0 (zPr ad (fun r M' F' => 396 = r ∧ (zu (zu zM0 396 3 (zM0 396 3 + 1)) 397 (zM0 396 3) x0) = M' ∧ zF0 = F')) := by
  refine zMt.of "java/lang/StringBuilder" rfl (by decide +kernel) (Nat.le_of_ble_eq_true rfl) (fun {p e s m args below meth c ls} C0 Wd hl hret hlk hin => ?_)
  have hl : lv_has ls 2 [(0, .ref (ad 396)), (1, .int (zI x0))] := hl
  refine z_aload_n C0 hl 0 rfl dJ4_append_cf468_0 ?_
  refine z_iload_n C0 hl 1 rfl dJ4_append_cf468_1 ?_
  refine z_invSU (As := [.int (zI x0)]) (rest := []) C0 Wd (ct_J5_append_3fe6f l g N zb6 zb7 ad zM0 zF0 x0 hx0 (by omega) (by omega) (by omega)) ku_J5_append_3fe6f (zrecvW C0 Wd zb6 (zE_10 zK396) rfl) zk_1252 rfl hl.1 rfl (Nat.le_of_ble_eq_true rfl) (by decide) (by decide) dJ4_append_cf468_2 (z_kkr (fun r1 zMr1 zFr1 H locs hp Wd => ?_))
  obtain ⟨rfl, rfl, rfl⟩ := hp
  refine z_pop C0 rfl dJ4_append_cf468_5 ?_
  refine z_aload_n C0 hl 0 rfl dJ4_append_cf468_6 ?_
  exact z_aret C0 Wd hret hlk ⟨by first | rfl | (simp only [zb]; first | rfl | (split <;> omega) | omega) | (simp [zb, *]; done) | omega, by first | rfl | (simp [zb, *]; done), rfl⟩ dJ4_append_cf468_7
set_option maxHeartbeats 4000000 in
set_option maxRecDepth 100000 in
theorem ct_J5_setLength_d00df (l : Launch) (g : zG) (N : zNs) (zb6 : zIn N 396) (zb7 : zIn N 397) (ad : Int → Nat) (zM0 zF0 : zMem) (x0 : Int) (hx0 : zR x0) (hc : zM0 396 1 = 0) (h3 : 0 ≤ zM0 396 3 ∧ zM0 396 3 ≤ 16) (hx : x0 = 0) : zMt l yJ5_setLength_d00df cJ5_setLength_d00df 2 none 1 0 0 g N ad [.ref (ad 396), .int (zI x0)] zM0 zF0 (zPv (fun M' F' => ((zM0 396 3 ≤ x0) ∧ (zu zM0 396 3 x0) = M' ∧ zF0 = F') ∨ ((¬ zM0 396 3 ≤ x0) ∧ (zu (zu zM0 396 2 1) 396 3 x0) = M' ∧ zF0 = F'))) := by
  refine zMt.of "java/lang/AbstractStringBuilder" rfl (by decide +kernel) (Nat.le_of_ble_eq_true rfl) (fun {p e s m args below meth c ls} C0 Wd hl hret hlk hin => ?_)
  have hl : lv_has ls 2 [(0, .ref (ad 396)), (1, .int (zI x0))] := hl
  refine z_iload_n C0 hl 1 rfl dJ5_setLength_d00df_0 ?_
  refine z_if_ge C0 (tgt := 13) hx0 dJ5_setLength_d00df_1 (by decide) (fun c1 => ?_) (fun c1 => absurd c1 (by omega))
  refine z_aload_n C0 hl 0 rfl dJ5_setLength_d00df_13 ?_
  refine z_iload_n C0 hl 1 rfl dJ5_setLength_d00df_14 ?_
  refine z_invP (As := [.int (zI x0)]) (rest := []) C0 Wd (ct_J5_ensureCapacityInternal_d00df l g N zb6 zb7 ad zM0 zF0 x0 hx0 (by omega) (by omega)) kp_ensure (zrecvW C0 Wd zb6 (zE_10 zK396) rfl) zk_1020 rfl hl.1 rfl (Nat.le_of_ble_eq_true rfl) (by decide) (by decide) dJ5_setLength_d00df_15 (z_kkv (fun zMr2 zFr2 H locs hp Wd => ?_))
  obtain ⟨rfl, rfl⟩ := hp
  refine z_aload_n C0 hl 0 rfl dJ5_setLength_d00df_18 ?_
  refine zg_10_3 C0 Wd zb6 zK396 zk_332 dJ5_setLength_d00df_19 ?_
  have hz4 : zR (zM0 396 3) := Wd.rm _ _
  refine z_iload_n C0 hl 1 rfl dJ5_setLength_d00df_22 ?_
  refine z_icmp_ge C0 (tgt := 63) hz4 hx0 dJ5_setLength_d00df_23 (by decide) (fun c5 => ?_) (fun c5 => absurd c5 (by omega))
  refine z_aload_n C0 hl 0 rfl dJ5_setLength_d00df_63 ?_
  refine zg_10_3 C0 Wd zb6 zK396 zk_332 dJ5_setLength_d00df_64 ?_
  have hz6 : zR (zM0 396 3) := Wd.rm _ _
  refine z_iload_n C0 hl 1 rfl dJ5_setLength_d00df_67 ?_
  refine z_icmp_le C0 (tgt := 76) hz6 hx0 dJ5_setLength_d00df_68 (by decide) (fun c7 => ?_) (fun c7 => ?_)
  · skip
    refine z_aload_n C0 hl 0 rfl dJ5_setLength_d00df_76 ?_
    refine z_iload_n C0 hl 1 rfl dJ5_setLength_d00df_77 ?_
    refine zp_10_3 C0 Wd zb6 zK396 hx0 zk_332 dJ5_setLength_d00df_78 (fun H locs Wd => ?_)
    exact z_vret C0 Wd hret hlk (by first | exact (Or.inl ⟨(by first | assumption | omega), (by first | rfl | (simp [zb, *]; done)), rfl⟩) | exact (Or.inr ⟨(by first | assumption | omega), (by first | rfl | (simp [zb, *]; done)), rfl⟩)) dJ5_setLength_d00df_81
  · skip
    refine z_aload_n C0 hl 0 rfl dJ5_setLength_d00df_71 ?_
    refine z_iconst C0 dJ5_setLength_d00df_72 ?_
    refine zp_10_2 C0 Wd zb6 zK396 (by omega) zk_330 dJ5_setLength_d00df_73 (fun H locs Wd => ?_)
    refine z_aload_n C0 hl 0 rfl dJ5_setLength_d00df_76 ?_
    refine z_iload_n C0 hl 1 rfl dJ5_setLength_d00df_77 ?_
    refine zp_10_3 C0 Wd zb6 zK396 hx0 zk_332 dJ5_setLength_d00df_78 (fun H locs Wd => ?_)
    exact z_vret C0 Wd hret hlk (by first | exact (Or.inl ⟨(by first | assumption | omega), (by first | rfl | (simp [zb, *]; done)), rfl⟩) | exact (Or.inr ⟨(by first | assumption | omega), (by first | rfl | (simp [zb, *]; done)), rfl⟩)) dJ5_setLength_d00df_81
theorem kv_J4_setLength_d00df : zKV yJ4_setLength_d00df cJ4_setLength_d00df 2 none "java/lang/StringBuilder" 1 := ⟨zk_997, zk_995, zk_996, zk_37, by decide, by decide, by decide +kernel⟩
set_option maxHeartbeats 4000000 in
set_option maxRecDepth 100000 in
theorem ct_J4_setLength_d00df (l : Launch) (g : zG) (N : zNs) (zb6 : zIn N 396) (zb7 : zIn N 397) (ad : Int → Nat) (zM0 zF0 : zMem) (x0 : Int) (hx0 : zR x0) (hc : zM0 396 1 = 0) (h3 : 0 ≤ zM0 396 3 ∧ zM0 396 3 ≤ 16) (hx : x0 = 0) : zMt l yJ4_setLength_d00df cJ4_setLength_d00df 2 none 2 0 0 g N ad [.ref (ad 396), .int (zI x0)] zM0 zF0 (zPv (fun M' F' => ((zM0 396 3 ≤ x0) ∧ (zu zM0 396 3 x0) = M' ∧ zF0 = F') ∨ ((¬ zM0 396 3 ≤ x0) ∧ (zu (zu zM0 396 2 1) 396 3 x0) = M' ∧ zF0 = F'))) := by
  refine zMt.of "java/lang/StringBuilder" rfl (by decide +kernel) (Nat.le_of_ble_eq_true rfl) (fun {p e s m args below meth c ls} C0 Wd hl hret hlk hin => ?_)
  have hl : lv_has ls 2 [(0, .ref (ad 396)), (1, .int (zI x0))] := hl
  refine z_aload_n C0 hl 0 rfl dJ4_setLength_d00df_0 ?_
  refine z_iload_n C0 hl 1 rfl dJ4_setLength_d00df_1 ?_
  refine z_invSU (As := [.int (zI x0)]) (rest := []) C0 Wd (ct_J5_setLength_d00df l g N zb6 zb7 ad zM0 zF0 x0 hx0 (by omega) (by omega) (by omega)) ku_J5_setLength_d00df (zrecvW C0 Wd zb6 (zE_10 zK396) rfl) zk_998 rfl hl.1 rfl (Nat.le_of_ble_eq_true rfl) (by decide) (by decide) dJ4_setLength_d00df_2 (z_kkv (fun zMr1 zFr1 H locs hp Wd => ?_))
  rcases hp with ⟨hr1_0_0, rfl, rfl⟩ | ⟨hr1_1_0, rfl, rfl⟩
  · skip
    exact z_vret C0 Wd hret hlk (by first | exact (Or.inl ⟨(by first | assumption | omega), (by first | rfl | (simp [zb, *]; done)), rfl⟩) | exact (Or.inr ⟨(by first | assumption | omega), (by first | rfl | (simp [zb, *]; done)), rfl⟩)) dJ4_setLength_d00df_5
  · skip
    exact z_vret C0 Wd hret hlk (by first | exact (Or.inl ⟨(by first | assumption | omega), (by first | rfl | (simp [zb, *]; done)), rfl⟩) | exact (Or.inr ⟨(by first | assumption | omega), (by first | rfl | (simp [zb, *]; done)), rfl⟩)) dJ4_setLength_d00df_5
set_option maxHeartbeats 4000000 in
set_option maxRecDepth 100000 in
theorem ct_J5_length_8abf5 (l : Launch) (g : zG) (N : zNs) (zb6 : zIn N 396) (zb7 : zIn N 397) (ad : Int → Nat) (zM0 zF0 : zMem) : zMt l yJ5_length_8abf5 cJ5_length_8abf5 1 (some .int) 0 0 0 g N ad [.ref (ad 396)] zM0 zF0 (zPi (fun r M' F' => (zM0 396 3) = r ∧ zM0 = M' ∧ zF0 = F')) := by
  refine zMt.of "java/lang/AbstractStringBuilder" rfl (by decide +kernel) (Nat.le_of_ble_eq_true rfl) (fun {p e s m args below meth c ls} C0 Wd hl hret hlk hin => ?_)
  have hl : lv_has ls 1 [(0, .ref (ad 396))] := hl
  refine z_aload_n C0 hl 0 rfl dJ5_length_8abf5_0 ?_
  refine zg_10_3 C0 Wd zb6 zK396 zk_332 dJ5_length_8abf5_1 ?_
  have hz1 : zR (zM0 396 3) := Wd.rm _ _
  exact z_iret C0 Wd hret hlk hz1 ⟨by first | rfl | (simp only [zb]; first | rfl | (split <;> omega) | omega) | (simp [zb, *]; done) | omega, by first | rfl | (simp [zb, *]; done), rfl⟩ dJ5_length_8abf5_4
theorem kv_J4_length_8abf5 : zKV yJ4_length_8abf5 cJ4_length_8abf5 1 (some .int) "java/lang/StringBuilder" 0 := ⟨zk_1172, zk_1171, zk_1634, zk_37, by decide, by decide, by decide +kernel⟩
set_option maxHeartbeats 4000000 in
set_option maxRecDepth 100000 in
theorem ct_J4_length_8abf5 (l : Launch) (g : zG) (N : zNs) (zb6 : zIn N 396) (zb7 : zIn N 397) (ad : Int → Nat) (zM0 zF0 : zMem) : zMt l yJ4_length_8abf5 cJ4_length_8abf5 1 (some .int) 1 0 0 g N ad [.ref (ad 396)] zM0 zF0 (zPi (fun r M' F' => (zM0 396 3) = r ∧ zM0 = M' ∧ zF0 = F')) := by
  refine zMt.of "java/lang/StringBuilder" rfl (by decide +kernel) (Nat.le_of_ble_eq_true rfl) (fun {p e s m args below meth c ls} C0 Wd hl hret hlk hin => ?_)
  have hl : lv_has ls 1 [(0, .ref (ad 396))] := hl
  refine z_aload_n C0 hl 0 rfl dJ4_length_8abf5_0 ?_
  refine z_invSU (As := []) (rest := []) C0 Wd (ct_J5_length_8abf5 l g N zb6 zb7 ad zM0 zF0) ku_J5_length_8abf5 (zrecvW C0 Wd zb6 (zE_10 zK396) rfl) zk_1173 rfl hl.1 rfl (Nat.le_of_ble_eq_true rfl) (by decide) (by decide) dJ4_length_8abf5_1 (z_kki (fun r1 zMr1 zFr1 H locs hrr1 hp Wd => ?_))
  obtain ⟨rfl, rfl, rfl⟩ := hp
  exact z_iret C0 Wd hret hlk hrr1 ⟨by first | rfl | (simp only [zb]; first | rfl | (split <;> omega) | omega) | (simp [zb, *]; done) | omega, by first | rfl | (simp [zb, *]; done), rfl⟩ dJ4_length_8abf5_4
