/-! the same over a builder of 34 -/
set_option maxHeartbeats 4000000 in
set_option maxRecDepth 100000 in
theorem ct_J5_isLatin1_aae02G (l : Launch) (g : zG) (N : zNs) (zb6 : zIn N 402) (zb7 : zIn N 403) (ad : Int → Nat) (zM0 zF0 : zMem) (hc : zM0 402 1 = 0) : zMt l yJ5_isLatin1_aae02 cJ5_isLatin1_aae02 1 (some .boolean) 0 0 0 g N ad [.ref (ad 402)] zM0 zF0 (zPi (fun r M' F' => 1 = r ∧ zM0 = M' ∧ zF0 = F')) := by
  refine zMt.of "java/lang/AbstractStringBuilder" rfl (by decide +kernel) (Nat.le_of_ble_eq_true rfl) (fun {p e s m args below meth c ls} C0 Wd hl hret hlk hin => ?_)
  have hl : lv_has ls 1 [(0, .ref (ad 402))] := hl
  refine z_gets C0 Wd (zc_cs C0) zk_319 dJ5_isLatin1_aae02_0 ?_
  refine z_top (show (1 : Int32) = zI 1 from rfl) ?_
  refine z_if_eq C0 (tgt := 17) (zR_mk (by decide) (by decide)) dJ5_isLatin1_aae02_3 (by decide) (fun h => absurd h (by decide)) (fun _ => ?_)
  refine z_aload_n C0 hl 0 rfl dJ5_isLatin1_aae02_6 ?_
  refine zg_10_1 C0 Wd zb6 zK402 zk_329 dJ5_isLatin1_aae02_7 ?_
  obtain ⟨he3, hz2⟩ : (zM0 402 1) = 0 ∧ zR 0 := (fun q => ⟨q, q ▸ Wd.rm _ _⟩) hc
  refine z_top (congrArg zI he3) ?_
  clear he3
  refine z_if_ne C0 (tgt := 17) hz2 dJ5_isLatin1_aae02_10 (by decide) (fun h => absurd h (by decide)) (fun _ => ?_)
  refine z_iconst C0 dJ5_isLatin1_aae02_13 ?_
  refine z_goto C0 (tgt := 18) dJ5_isLatin1_aae02_14 (by decide) ?_
  exact z_zret C0 Wd hret hlk (by decide) ⟨by first | rfl | (simp only [zb]; first | rfl | (split <;> omega) | omega) | (simp [zb, *]; done) | omega, by first | rfl | (simp [zb, *]; done), rfl⟩ dJ5_isLatin1_aae02_18
set_option maxHeartbeats 4000000 in
set_option maxRecDepth 100000 in
theorem ct_J5_ensureCapacityInternal_d00dfG (l : Launch) (g : zG) (N : zNs) (zb6 : zIn N 402) (zb7 : zIn N 403) (ad : Int → Nat) (zM0 zF0 : zMem) (x0 : Int) (hx0 : zR x0) (hc : zM0 402 1 = 0) (h16 : 0 ≤ x0 ∧ x0 ≤ 34) : zMt l yJ5_ensureCapacityInternal_d00df cJ5_ensureCapacityInternal_d00df 3 none 0 0 0 g N ad [.ref (ad 402), .int (zI x0)] zM0 zF0 (zPv (fun M' F' => zM0 = M' ∧ zF0 = F')) := by
  refine zMt.of "java/lang/AbstractStringBuilder" rfl (by decide +kernel) (Nat.le_of_ble_eq_true rfl) (fun {p e s m args below meth c ls} C0 Wd hl hret hlk hin => ?_)
  have hl : lv_has ls 3 [(0, .ref (ad 402)), (1, .int (zI x0))] := hl
  refine z_aload_n C0 hl 0 rfl dJ5_ensureCapacityInternal_d00df_0 ?_
  refine zg_10_0 C0 Wd zb6 zK402 zk_328 dJ5_ensureCapacityInternal_d00df_1 ?_
  refine z_rf (show (402 + 1) = 403 by decide) ?_
  refine z_blen C0 Wd zb7 zK403 zL403 dJ5_ensureCapacityInternal_d00df_4 ?_
  refine z_top (show zI ((34 : Nat) : Int) = zI 34 from rfl) ?_
  refine z_aload_n C0 hl 0 rfl dJ5_ensureCapacityInternal_d00df_5 ?_
  refine zg_10_1 C0 Wd zb6 zK402 zk_329 dJ5_ensureCapacityInternal_d00df_6 ?_
  obtain ⟨he2, hz1⟩ : (zM0 402 1) = 0 ∧ zR 0 := (fun q => ⟨q, q ▸ Wd.rm _ _⟩) hc
  refine z_top (congrArg zI he2) ?_
  clear he2
  refine z_ishr C0 (v := 34) (by decide) dJ5_ensureCapacityInternal_d00df_9 ?_
  refine z_istore_n C0 hl [(2, .int (zI 34)), (0, .ref (ad 402)), (1, .int (zI x0))] (by decide) rfl dJ5_ensureCapacityInternal_d00df_10 (fun ls hl => ?_)
  refine z_iload_n C0 hl 2 rfl dJ5_ensureCapacityInternal_d00df_11 ?_
  refine z_iload_n C0 hl 0 rfl dJ5_ensureCapacityInternal_d00df_12 ?_
  refine z_isub C0 dJ5_ensureCapacityInternal_d00df_13 ?_
  refine z_if_le C0 (tgt := 38) (by have q0 := hx0.1; have p0 := hx0.2; have q1 := hz1.1; have p1 := hz1.2; exact zR_mk (by omega) (by omega)) dJ5_ensureCapacityInternal_d00df_14 (by decide) (fun c3 => ?_) (fun c3 => absurd c3 (by omega))
  exact z_vret C0 Wd hret hlk ⟨by first | rfl | (simp [zb, *]; done), rfl⟩ dJ5_ensureCapacityInternal_d00df_38
set_option maxHeartbeats 4000000 in
set_option maxRecDepth 100000 in
theorem ct_J5_length_8abf5G (l : Launch) (g : zG) (N : zNs) (zb6 : zIn N 402) (zb7 : zIn N 403) (ad : Int → Nat) (zM0 zF0 : zMem) : zMt l yJ5_length_8abf5 cJ5_length_8abf5 1 (some .int) 0 0 0 g N ad [.ref (ad 402)] zM0 zF0 (zPi (fun r M' F' => (zM0 402 3) = r ∧ zM0 = M' ∧ zF0 = F')) := by
  refine zMt.of "java/lang/AbstractStringBuilder" rfl (by decide +kernel) (Nat.le_of_ble_eq_true rfl) (fun {p e s m args below meth c ls} C0 Wd hl hret hlk hin => ?_)
  have hl : lv_has ls 1 [(0, .ref (ad 402))] := hl
  refine z_aload_n C0 hl 0 rfl dJ5_length_8abf5_0 ?_
  refine zg_10_3 C0 Wd zb6 zK402 zk_332 dJ5_length_8abf5_1 ?_
  have hz1 : zR (zM0 402 3) := Wd.rm _ _
  exact z_iret C0 Wd hret hlk hz1 ⟨by first | rfl | (simp only [zb]; first | rfl | (split <;> omega) | omega) | (simp [zb, *]; done) | omega, by first | rfl | (simp [zb, *]; done), rfl⟩ dJ5_length_8abf5_4
set_option maxHeartbeats 4000000 in
set_option maxRecDepth 100000 in
theorem ct_J4_length_8abf5G (l : Launch) (g : zG) (N : zNs) (zb6 : zIn N 402) (zb7 : zIn N 403) (ad : Int → Nat) (zM0 zF0 : zMem) : zMt l yJ4_length_8abf5 cJ4_length_8abf5 1 (some .int) 1 0 0 g N ad [.ref (ad 402)] zM0 zF0 (zPi (fun r M' F' => (zM0 402 3) = r ∧ zM0 = M' ∧ zF0 = F')) := by
  refine zMt.of "java/lang/StringBuilder" rfl (by decide +kernel) (Nat.le_of_ble_eq_true rfl) (fun {p e s m args below meth c ls} C0 Wd hl hret hlk hin => ?_)
  have hl : lv_has ls 1 [(0, .ref (ad 402))] := hl
  refine z_aload_n C0 hl 0 rfl dJ4_length_8abf5_0 ?_
  refine z_invSU (As := []) (rest := []) C0 Wd (ct_J5_length_8abf5G l g N zb6 zb7 ad zM0 zF0) ku_J5_length_8abf5 (zrecvW C0 Wd zb6 (zE_10 zK402) rfl) zk_1173 rfl hl.1 rfl (Nat.le_of_ble_eq_true rfl) (by decide) (by decide) dJ4_length_8abf5_1 (z_kki (fun r1 zMr1 zFr1 H locs hrr1 hp Wd => ?_))
  obtain ⟨rfl, rfl, rfl⟩ := hp
  exact z_iret C0 Wd hret hlk hrr1 ⟨by first | rfl | (simp only [zb]; first | rfl | (split <;> omega) | omega) | (simp [zb, *]; done) | omega, by first | rfl | (simp [zb, *]; done), rfl⟩ dJ4_length_8abf5_4
set_option maxHeartbeats 4000000 in
set_option maxRecDepth 100000 in
theorem ct_J6_stringSize_0f7a4G (l : Launch) (g : zG) (N : zNs) (zb6 : zIn N 402) (zb7 : zIn N 403) (ad : Int → Nat) (zM0 zF0 : zMem) (x0 : Int) (hx0 : zR x0) (h0 : 0 ≤ x0 ∧ x0 < 100000) : zMt l yJ6_stringSize_0f7a4 cJ6_stringSize_0f7a4 4 (some .int) 0 0 0 g N ad [.int (zI x0)] zM0 zF0 (zPi (fun r M' F' => (zlen x0) = r ∧ zM0 = M' ∧ zF0 = F')) := by
  refine zMt.of "java/lang/Integer" rfl (by decide +kernel) (Nat.le_of_ble_eq_true rfl) (fun {p e s m args below meth c ls} C0 Wd hl hret hlk hin => ?_)
  have hl : lv_has ls 4 [(0, .int (zI x0))] := hl
  refine z_iconst C0 dJ6_stringSize_0f7a4_0 ?_
  refine z_istore_n C0 hl [(1, .int (zI 1)), (0, .int (zI x0))] (by decide) rfl dJ6_stringSize_0f7a4_1 (fun ls hl => ?_)
  refine z_iload_n C0 hl 1 rfl dJ6_stringSize_0f7a4_2 ?_
  refine z_if_lt C0 (tgt := 11) hx0 dJ6_stringSize_0f7a4_3 (by decide) (fun c1 => absurd c1 (by omega)) (fun c1 => ?_)
  refine z_iconst C0 dJ6_stringSize_0f7a4_6 ?_
  refine z_istore_n C0 hl [(1, .int (zI 0)), (0, .int (zI x0))] (by decide) rfl dJ6_stringSize_0f7a4_7 (fun ls hl => ?_)
  refine z_iload_n C0 hl 1 rfl dJ6_stringSize_0f7a4_8 ?_
  refine z_ineg C0 dJ6_stringSize_0f7a4_9 ?_
  refine z_istore_n C0 hl [(0, .int (zI (-x0))), (1, .int (zI 0))] (by decide) rfl dJ6_stringSize_0f7a4_10 (fun ls hl => ?_)
  refine z_bipush C0 dJ6_stringSize_0f7a4_11 (by decide) ?_
  refine z_istore_n C0 hl [(2, .int (zI (-10))), (0, .int (zI (-x0))), (1, .int (zI 0))] (by decide) rfl dJ6_stringSize_0f7a4_13 (fun ls hl => ?_)
  refine z_iconst C0 dJ6_stringSize_0f7a4_14 ?_
  refine z_istore_n C0 hl [(3, .int (zI 1)), (2, .int (zI (-10))), (0, .int (zI (-x0))), (1, .int (zI 0))] (by decide) rfl dJ6_stringSize_0f7a4_15 (fun ls hl => ?_)
  refine z_iload_n C0 hl 0 rfl dJ6_stringSize_0f7a4_16 ?_
  refine z_bipush C0 dJ6_stringSize_0f7a4_17 (by decide) ?_
  refine z_icmp_ge C0 (tgt := 42) (zR_mk (by decide) (by decide)) (zR_mk (by decide) (by decide)) dJ6_stringSize_0f7a4_19 (by decide) (fun h => absurd h (by decide)) (fun _ => ?_)
  refine z_iload_n C0 hl 2 rfl dJ6_stringSize_0f7a4_22 ?_
  refine z_iload_n C0 hl 1 rfl dJ6_stringSize_0f7a4_23 ?_
  refine z_icmp_le C0 (tgt := 31) (zR_mk (by omega) (by omega)) (zR_mk (by decide) (by decide)) dJ6_stringSize_0f7a4_24 (by decide) (fun c3 => ?_) (fun c3 => ?_)
  · skip
    refine z_bipush C0 dJ6_stringSize_0f7a4_31 (by decide) ?_
    refine z_iload_n C0 hl 1 rfl dJ6_stringSize_0f7a4_33 ?_
    refine z_imul C0 dJ6_stringSize_0f7a4_34 ?_
    refine z_top (show zI (10 * (-10)) = zI (-100) from rfl) ?_
    refine z_istore_n C0 hl [(2, .int (zI (-100))), (3, .int (zI 1)), (0, .int (zI (-x0))), (1, .int (zI 0))] (by decide) rfl dJ6_stringSize_0f7a4_35 (fun ls hl => ?_)
    refine z_iinc C0 hl 1 (t := 1) (u := 2) rfl (by omega) [(3, .int (zI 2)), (2, .int (zI (-100))), (0, .int (zI (-x0))), (1, .int (zI 0))] (by decide) rfl dJ6_stringSize_0f7a4_36 (fun ls hl => ?_)
    refine z_goto C0 (tgt := 16) dJ6_stringSize_0f7a4_39 (by decide) ?_
    refine z_iload_n C0 hl 0 rfl dJ6_stringSize_0f7a4_16 ?_
    refine z_bipush C0 dJ6_stringSize_0f7a4_17 (by decide) ?_
    refine z_icmp_ge C0 (tgt := 42) (zR_mk (by decide) (by decide)) (zR_mk (by decide) (by decide)) dJ6_stringSize_0f7a4_19 (by decide) (fun h => absurd h (by decide)) (fun _ => ?_)
    refine z_iload_n C0 hl 2 rfl dJ6_stringSize_0f7a4_22 ?_
    refine z_iload_n C0 hl 1 rfl dJ6_stringSize_0f7a4_23 ?_
    refine z_icmp_le C0 (tgt := 31) (zR_mk (by omega) (by omega)) (zR_mk (by decide) (by decide)) dJ6_stringSize_0f7a4_24 (by decide) (fun c5 => ?_) (fun c5 => ?_)
    · skip
      refine z_bipush C0 dJ6_stringSize_0f7a4_31 (by decide) ?_
      refine z_iload_n C0 hl 1 rfl dJ6_stringSize_0f7a4_33 ?_
      refine z_imul C0 dJ6_stringSize_0f7a4_34 ?_
      refine z_top (show zI (10 * (-100)) = zI (-1000) from rfl) ?_
      refine z_istore_n C0 hl [(2, .int (zI (-1000))), (3, .int (zI 2)), (0, .int (zI (-x0))), (1, .int (zI 0))] (by decide) rfl dJ6_stringSize_0f7a4_35 (fun ls hl => ?_)
      refine z_iinc C0 hl 1 (t := 2) (u := 3) rfl (by omega) [(3, .int (zI 3)), (2, .int (zI (-1000))), (0, .int (zI (-x0))), (1, .int (zI 0))] (by decide) rfl dJ6_stringSize_0f7a4_36 (fun ls hl => ?_)
      refine z_goto C0 (tgt := 16) dJ6_stringSize_0f7a4_39 (by decide) ?_
      refine z_iload_n C0 hl 0 rfl dJ6_stringSize_0f7a4_16 ?_
      refine z_bipush C0 dJ6_stringSize_0f7a4_17 (by decide) ?_
      refine z_icmp_ge C0 (tgt := 42) (zR_mk (by decide) (by decide)) (zR_mk (by decide) (by decide)) dJ6_stringSize_0f7a4_19 (by decide) (fun h => absurd h (by decide)) (fun _ => ?_)
      refine z_iload_n C0 hl 2 rfl dJ6_stringSize_0f7a4_22 ?_
      refine z_iload_n C0 hl 1 rfl dJ6_stringSize_0f7a4_23 ?_
      refine z_icmp_le C0 (tgt := 31) (zR_mk (by omega) (by omega)) (zR_mk (by decide) (by decide)) dJ6_stringSize_0f7a4_24 (by decide) (fun c7 => ?_) (fun c7 => ?_)
      · skip
        refine z_bipush C0 dJ6_stringSize_0f7a4_31 (by decide) ?_
        refine z_iload_n C0 hl 1 rfl dJ6_stringSize_0f7a4_33 ?_
        refine z_imul C0 dJ6_stringSize_0f7a4_34 ?_
        refine z_top (show zI (10 * (-1000)) = zI (-10000) from rfl) ?_
        refine z_istore_n C0 hl [(2, .int (zI (-10000))), (3, .int (zI 3)), (0, .int (zI (-x0))), (1, .int (zI 0))] (by decide) rfl dJ6_stringSize_0f7a4_35 (fun ls hl => ?_)
        refine z_iinc C0 hl 1 (t := 3) (u := 4) rfl (by omega) [(3, .int (zI 4)), (2, .int (zI (-10000))), (0, .int (zI (-x0))), (1, .int (zI 0))] (by decide) rfl dJ6_stringSize_0f7a4_36 (fun ls hl => ?_)
        refine z_goto C0 (tgt := 16) dJ6_stringSize_0f7a4_39 (by decide) ?_
        refine z_iload_n C0 hl 0 rfl dJ6_stringSize_0f7a4_16 ?_
        refine z_bipush C0 dJ6_stringSize_0f7a4_17 (by decide) ?_
        refine z_icmp_ge C0 (tgt := 42) (zR_mk (by decide) (by decide)) (zR_mk (by decide) (by decide)) dJ6_stringSize_0f7a4_19 (by decide) (fun h => absurd h (by decide)) (fun _ => ?_)
        refine z_iload_n C0 hl 2 rfl dJ6_stringSize_0f7a4_22 ?_
        refine z_iload_n C0 hl 1 rfl dJ6_stringSize_0f7a4_23 ?_
        refine z_icmp_le C0 (tgt := 31) (zR_mk (by omega) (by omega)) (zR_mk (by decide) (by decide)) dJ6_stringSize_0f7a4_24 (by decide) (fun c9 => ?_) (fun c9 => ?_)
        · skip
          refine z_bipush C0 dJ6_stringSize_0f7a4_31 (by decide) ?_
          refine z_iload_n C0 hl 1 rfl dJ6_stringSize_0f7a4_33 ?_
          refine z_imul C0 dJ6_stringSize_0f7a4_34 ?_
          refine z_top (show zI (10 * (-10000)) = zI (-100000) from rfl) ?_
          refine z_istore_n C0 hl [(2, .int (zI (-100000))), (3, .int (zI 4)), (0, .int (zI (-x0))), (1, .int (zI 0))] (by decide) rfl dJ6_stringSize_0f7a4_35 (fun ls hl => ?_)
          refine z_iinc C0 hl 1 (t := 4) (u := 5) rfl (by omega) [(3, .int (zI 5)), (2, .int (zI (-100000))), (0, .int (zI (-x0))), (1, .int (zI 0))] (by decide) rfl dJ6_stringSize_0f7a4_36 (fun ls hl => ?_)
          refine z_goto C0 (tgt := 16) dJ6_stringSize_0f7a4_39 (by decide) ?_
          refine z_iload_n C0 hl 0 rfl dJ6_stringSize_0f7a4_16 ?_
          refine z_bipush C0 dJ6_stringSize_0f7a4_17 (by decide) ?_
          refine z_icmp_ge C0 (tgt := 42) (zR_mk (by decide) (by decide)) (zR_mk (by decide) (by decide)) dJ6_stringSize_0f7a4_19 (by decide) (fun h => absurd h (by decide)) (fun _ => ?_)
          refine z_iload_n C0 hl 2 rfl dJ6_stringSize_0f7a4_22 ?_
          refine z_iload_n C0 hl 1 rfl dJ6_stringSize_0f7a4_23 ?_
          refine z_icmp_le C0 (tgt := 31) (zR_mk (by omega) (by omega)) (zR_mk (by decide) (by decide)) dJ6_stringSize_0f7a4_24 (by decide) (fun c11 => absurd c11 (by omega)) (fun c11 => ?_)
          refine z_iload_n C0 hl 0 rfl dJ6_stringSize_0f7a4_27 ?_
          refine z_iload_n C0 hl 3 rfl dJ6_stringSize_0f7a4_28 ?_
          refine z_iadd C0 dJ6_stringSize_0f7a4_29 ?_
          exact z_iret C0 Wd hret hlk (zR_mk (by omega) (by omega)) ⟨by unfold zlen; rw [if_neg (by omega), if_neg (by omega), if_neg (by omega), if_neg (by omega)]; rfl, rfl, rfl⟩ dJ6_stringSize_0f7a4_30
        · skip
          refine z_iload_n C0 hl 0 rfl dJ6_stringSize_0f7a4_27 ?_
          refine z_iload_n C0 hl 3 rfl dJ6_stringSize_0f7a4_28 ?_
          refine z_iadd C0 dJ6_stringSize_0f7a4_29 ?_
          exact z_iret C0 Wd hret hlk (zR_mk (by omega) (by omega)) ⟨by unfold zlen; rw [if_neg (by omega), if_neg (by omega), if_neg (by omega), if_pos (by omega)]; rfl, rfl, rfl⟩ dJ6_stringSize_0f7a4_30
      · skip
        refine z_iload_n C0 hl 0 rfl dJ6_stringSize_0f7a4_27 ?_
        refine z_iload_n C0 hl 3 rfl dJ6_stringSize_0f7a4_28 ?_
        refine z_iadd C0 dJ6_stringSize_0f7a4_29 ?_
        exact z_iret C0 Wd hret hlk (zR_mk (by omega) (by omega)) ⟨by unfold zlen; rw [if_neg (by omega), if_neg (by omega), if_pos (by omega)]; rfl, rfl, rfl⟩ dJ6_stringSize_0f7a4_30
    · skip
      refine z_iload_n C0 hl 0 rfl dJ6_stringSize_0f7a4_27 ?_
      refine z_iload_n C0 hl 3 rfl dJ6_stringSize_0f7a4_28 ?_
      refine z_iadd C0 dJ6_stringSize_0f7a4_29 ?_
      exact z_iret C0 Wd hret hlk (zR_mk (by omega) (by omega)) ⟨by unfold zlen; rw [if_neg (by omega), if_pos (by omega)]; rfl, rfl, rfl⟩ dJ6_stringSize_0f7a4_30
  · skip
    refine z_iload_n C0 hl 0 rfl dJ6_stringSize_0f7a4_27 ?_
    refine z_iload_n C0 hl 3 rfl dJ6_stringSize_0f7a4_28 ?_
    refine z_iadd C0 dJ6_stringSize_0f7a4_29 ?_
    exact z_iret C0 Wd hret hlk (zR_mk (by omega) (by omega)) ⟨by unfold zlen; rw [if_pos (by omega)]; rfl, rfl, rfl⟩ dJ6_stringSize_0f7a4_30
def zgchG (x i : Int) (M : zMem) : zMem :=
  if x < 10 then zu M 403 (i - 1) (48 + x % 10)
  else if x < 100 then zu (zu M 403 (i - 1) (48 + x % 10)) 403 (i - 1 - 1) (48 + x / 10)
  else if x < 1000 then zu (zu (zu M 403 (i - 1) (48 + x % 100 % 10)) 403 (i - 1 - 1) (48 + x % 100 / 10)) 403 (i - 1 - 1 - 1) (48 + x / 100 % 10)
  else zu (zu (zu (zu M 403 (i - 1) (48 + x % 100 % 10)) 403 (i - 1 - 1) (48 + x % 100 / 10)) 403 (i - 1 - 1 - 1) (48 + x / 100 % 10)) 403 (i - 1 - 1 - 1 - 1) (48 + x / 100 / 10)
def zapIG (x : Int) (M : zMem) : zMem := zu (zgchG x (M 402 3 + zlen x) M) 402 3 (M 402 3 + zlen x)
theorem zgch_rowG {x i : Int} {M : zMem} {r : Int} (h : r ≠ 403) (j : Int) : zgchG x i M r j = M r j := by
  unfold zgchG
  by_cases h1 : x < 10
  · rw [if_pos h1, zu_ne (by omega)]
  · rw [if_neg h1]
    by_cases h2 : x < 100
    · rw [if_pos h2, zu_ne (by omega), zu_ne (by omega)]
    · rw [if_neg h2]
      by_cases h3 : x < 1000
      · rw [if_pos h3, zu_ne (by omega), zu_ne (by omega), zu_ne (by omega)]
      · rw [if_neg h3, zu_ne (by omega), zu_ne (by omega), zu_ne (by omega), zu_ne (by omega)]
set_option maxHeartbeats 4000000 in
set_option maxRecDepth 100000 in
theorem ct_J6_getChars_ba4f3G (l : Launch) (g : zG) (N : zNs) (zb6 : zIn N 402) (zb7 : zIn N 403) (ad : Int → Nat) (zM0 zF0 : zMem) (x0 : Int) (hx0 : zR x0) (x1 : Int) (hx1 : zR x1) (h0 : 0 ≤ x0 ∧ x0 < 10000) (h1 : zlen x0 ≤ x1 ∧ x1 ≤ 34) : zMt l yJ6_getChars_ba4f3 cJ6_getChars_ba4f3 7 (some .int) 0 0 0 g N ad [.int (zI x0), .int (zI x1), .ref (ad 403)] zM0 zF0 (zPi (fun r M' F' => (x1 - zlen x0) = r ∧ (zgchG x0 x1 zM0) = M' ∧ zF0 = F')) := by
  refine zMt.of "java/lang/Integer" rfl (by decide +kernel) (Nat.le_of_ble_eq_true rfl) (fun {p e s m args below meth c ls} C0 Wd hl hret hlk hin => ?_)
  have hl : lv_has ls 7 [(0, .int (zI x0)), (1, .int (zI x1)), (2, .ref (ad 403))] := hl
  have hzl := zlen_b x0
  obtain ⟨hg1, hg2, hg3, hg4⟩ := zlen_g x0
  refine z_iload_n C0 hl 1 rfl dJ6_getChars_ba4f3_0 ?_
  refine z_istore C0 hl [(5, .int (zI x1)), (0, .int (zI x0)), (1, .int (zI x1)), (2, .ref (ad 403))] (by decide) rfl dJ6_getChars_ba4f3_1 (fun ls hl => ?_)
  refine z_iload_n C0 hl 1 rfl dJ6_getChars_ba4f3_3 ?_
  refine z_if_ge C0 (tgt := 11) hx0 dJ6_getChars_ba4f3_4 (by decide) (fun c1 => ?_) (fun c1 => absurd c1 (by omega))
  refine z_iconst C0 dJ6_getChars_ba4f3_11 ?_
  refine z_istore C0 hl [(6, .int (zI 0)), (5, .int (zI x1)), (0, .int (zI x0)), (1, .int (zI x1)), (2, .ref (ad 403))] (by decide) rfl dJ6_getChars_ba4f3_12 (fun ls hl => ?_)
  refine z_iload C0 hl 0 rfl dJ6_getChars_ba4f3_14 ?_
  refine z_if_ne C0 (tgt := 22) (zR_mk (by decide) (by decide)) dJ6_getChars_ba4f3_16 (by decide) (fun h => absurd h (by decide)) (fun _ => ?_)
  refine z_iload_n C0 hl 2 rfl dJ6_getChars_ba4f3_19 ?_
  refine z_ineg C0 dJ6_getChars_ba4f3_20 ?_
  refine z_istore_n C0 hl [(0, .int (zI (-x0))), (6, .int (zI 0)), (5, .int (zI x1)), (1, .int (zI x1)), (2, .ref (ad 403))] (by decide) rfl dJ6_getChars_ba4f3_21 (fun ls hl => ?_)
  refine z_iload_n C0 hl 0 rfl dJ6_getChars_ba4f3_22 ?_
  refine z_bipush C0 dJ6_getChars_ba4f3_23 (by decide) ?_
  refine z_icmp_gt C0 (tgt := 72) (zR_mk (by omega) (by omega)) (zR_mk (by decide) (by decide)) dJ6_getChars_ba4f3_25 (by decide) (fun c3 => ?_) (fun c3 => ?_)
  · skip
    refine z_aload_n C0 hl 4 rfl dJ6_getChars_ba4f3_72 ?_
    refine z_iinc C0 hl 2 (t := x1) (u := (x1 - 1)) rfl (by omega) [(5, .int (zI (x1 - 1))), (0, .int (zI (-x0))), (6, .int (zI 0)), (1, .int (zI x1)), (2, .ref (ad 403))] (by decide) rfl dJ6_getChars_ba4f3_73 (fun ls hl => ?_)
    refine z_iload C0 hl 0 rfl dJ6_getChars_ba4f3_76 ?_
    refine z_gets C0 Wd (zc_S3 C0) zk_1138 dJ6_getChars_ba4f3_78 ?_
    refine z_iload_n C0 hl 1 rfl dJ6_getChars_ba4f3_81 ?_
    refine z_ineg C0 dJ6_getChars_ba4f3_82 ?_
    refine z_top (show zI (-(-x0)) = zI x0 from congrArg zI (by omega)) ?_
    refine z_tabb C0 Wd (zc_T3 C0) (by omega) (by omega) (by decide) (show Value.int (zI (48 + (((x0).toNat : Nat) : Int) % 10)) = .int (zI (48 + x0 % 10)) by rw [Int.toNat_of_nonneg (by omega)]) dJ6_getChars_ba4f3_83 ?_
    refine z_bast C0 Wd zb7 zK403 zL403 (by omega) (by omega) (by decide) (by omega) dJ6_getChars_ba4f3_84 (fun H locs Wd => ?_)
    refine z_iload_n C0 hl 1 rfl dJ6_getChars_ba4f3_85 ?_
    refine z_bipush C0 dJ6_getChars_ba4f3_86 (by decide) ?_
    refine z_icmp_ge C0 (tgt := 104) (zR_mk (by omega) (by omega)) (zR_mk (by decide) (by decide)) dJ6_getChars_ba4f3_88 (by decide) (fun c4 => ?_) (fun c4 => ?_)
    · skip
      refine z_iload C0 hl 2 rfl dJ6_getChars_ba4f3_104 ?_
      refine z_if_eq C0 (tgt := 118) (zR_mk (by decide) (by decide)) dJ6_getChars_ba4f3_106 (by decide) (fun _ => ?_) (fun h => absurd h (by decide))
      refine z_iload C0 hl 0 rfl dJ6_getChars_ba4f3_118 ?_
      exact z_iret C0 Wd hret hlk (by have q0 := hx1.1; have p0 := hx1.2; exact zR_mk (by omega) (by omega)) ⟨by unfold zlen; rw [if_pos (by omega)]; try omega, by unfold zgchG; rw [if_pos (by omega)], rfl⟩ dJ6_getChars_ba4f3_120
    · skip
      refine z_aload_n C0 hl 4 rfl dJ6_getChars_ba4f3_91 ?_
      refine z_iinc C0 hl 0 (t := (x1 - 1)) (u := ((x1 - 1) - 1)) rfl (by omega) [(5, .int (zI ((x1 - 1) - 1))), (0, .int (zI (-x0))), (6, .int (zI 0)), (1, .int (zI x1)), (2, .ref (ad 403))] (by decide) rfl dJ6_getChars_ba4f3_92 (fun ls hl => ?_)
      refine z_iload C0 hl 0 rfl dJ6_getChars_ba4f3_95 ?_
      refine z_gets C0 Wd (zc_S4 C0) zk_1140 dJ6_getChars_ba4f3_97 ?_
      refine z_iload_n C0 hl 1 rfl dJ6_getChars_ba4f3_100 ?_
      refine z_ineg C0 dJ6_getChars_ba4f3_101 ?_
      refine z_top (show zI (-(-x0)) = zI x0 from congrArg zI (by omega)) ?_
      refine z_tabb C0 Wd (zc_T4 C0) (by omega) (by omega) (by decide) (show Value.int (zI (48 + (((x0).toNat : Nat) : Int) / 10)) = .int (zI (48 + x0 / 10)) by rw [Int.toNat_of_nonneg (by omega)]) dJ6_getChars_ba4f3_102 ?_
      refine z_bast C0 Wd zb7 zK403 zL403 (by omega) (by omega) (by decide) (by omega) dJ6_getChars_ba4f3_103 (fun H locs Wd => ?_)
      refine z_iload C0 hl 2 rfl dJ6_getChars_ba4f3_104 ?_
      refine z_if_eq C0 (tgt := 118) (zR_mk (by decide) (by decide)) dJ6_getChars_ba4f3_106 (by decide) (fun _ => ?_) (fun h => absurd h (by decide))
      refine z_iload C0 hl 0 rfl dJ6_getChars_ba4f3_118 ?_
      exact z_iret C0 Wd hret hlk (by have q0 := hx1.1; have p0 := hx1.2; exact zR_mk (by omega) (by omega)) ⟨by unfold zlen; rw [if_neg (by omega), if_pos (by omega)]; try omega, by unfold zgchG; rw [if_neg (by omega), if_pos (by omega)], rfl⟩ dJ6_getChars_ba4f3_120
  · skip
    refine z_iload_n C0 hl 0 rfl dJ6_getChars_ba4f3_28 ?_
    refine z_bipush C0 dJ6_getChars_ba4f3_29 (by decide) ?_
    refine z_idivn C0 (x := x0) (y := 100) ⟨by omega, by omega⟩ ⟨by decide, by decide⟩ dJ6_getChars_ba4f3_31 ?_
    refine z_istore_n C0 hl [(3, .int (zI (-(x0 / 100)))), (0, .int (zI (-x0))), (6, .int (zI 0)), (5, .int (zI x1)), (1, .int (zI x1)), (2, .ref (ad 403))] (by decide) rfl dJ6_getChars_ba4f3_32 (fun ls hl => ?_)
    refine z_iload_n C0 hl 0 rfl dJ6_getChars_ba4f3_33 ?_
    refine z_bipush C0 dJ6_getChars_ba4f3_34 (by decide) ?_
    refine z_imul C0 dJ6_getChars_ba4f3_36 ?_
    refine z_iload_n C0 hl 1 rfl dJ6_getChars_ba4f3_37 ?_
    refine z_isub C0 dJ6_getChars_ba4f3_38 ?_
    refine z_top (show zI (((-(x0 / 100)) * 100) - (-x0)) = zI (x0 % 100) from congrArg zI (by omega)) ?_
    refine z_istore C0 hl [(4, .int (zI (x0 % 100))), (3, .int (zI (-(x0 / 100)))), (0, .int (zI (-x0))), (6, .int (zI 0)), (5, .int (zI x1)), (1, .int (zI x1)), (2, .ref (ad 403))] (by decide) rfl dJ6_getChars_ba4f3_39 (fun ls hl => ?_)
    refine z_iload_n C0 hl 1 rfl dJ6_getChars_ba4f3_41 ?_
    refine z_istore_n C0 hl [(0, .int (zI (-(x0 / 100)))), (4, .int (zI (x0 % 100))), (3, .int (zI (-(x0 / 100)))), (6, .int (zI 0)), (5, .int (zI x1)), (1, .int (zI x1)), (2, .ref (ad 403))] (by decide) rfl dJ6_getChars_ba4f3_42 (fun ls hl => ?_)
    refine z_aload_n C0 hl 6 rfl dJ6_getChars_ba4f3_43 ?_
    refine z_iinc C0 hl 4 (t := x1) (u := (x1 - 1)) rfl (by omega) [(5, .int (zI (x1 - 1))), (0, .int (zI (-(x0 / 100)))), (4, .int (zI (x0 % 100))), (3, .int (zI (-(x0 / 100)))), (6, .int (zI 0)), (1, .int (zI x1)), (2, .ref (ad 403))] (by decide) rfl dJ6_getChars_ba4f3_44 (fun ls hl => ?_)
    refine z_iload C0 hl 0 rfl dJ6_getChars_ba4f3_47 ?_
    refine z_gets C0 Wd (zc_S3 C0) zk_1138 dJ6_getChars_ba4f3_49 ?_
    refine z_iload C0 hl 2 rfl dJ6_getChars_ba4f3_52 ?_
    refine z_tabb C0 Wd (zc_T3 C0) (by omega) (by omega) (by decide) (show Value.int (zI (48 + ((((x0 % 100)).toNat : Nat) : Int) % 10)) = .int (zI (48 + (x0 % 100) % 10)) by rw [Int.toNat_of_nonneg (by omega)]) dJ6_getChars_ba4f3_54 ?_
    refine z_bast C0 Wd zb7 zK403 zL403 (by omega) (by omega) (by decide) (by omega) dJ6_getChars_ba4f3_55 (fun H locs Wd => ?_)
    refine z_aload_n C0 hl 6 rfl dJ6_getChars_ba4f3_56 ?_
    refine z_iinc C0 hl 0 (t := (x1 - 1)) (u := ((x1 - 1) - 1)) rfl (by omega) [(5, .int (zI ((x1 - 1) - 1))), (0, .int (zI (-(x0 / 100)))), (4, .int (zI (x0 % 100))), (3, .int (zI (-(x0 / 100)))), (6, .int (zI 0)), (1, .int (zI x1)), (2, .ref (ad 403))] (by decide) rfl dJ6_getChars_ba4f3_57 (fun ls hl => ?_)
    refine z_iload C0 hl 0 rfl dJ6_getChars_ba4f3_60 ?_
    refine z_gets C0 Wd (zc_S4 C0) zk_1140 dJ6_getChars_ba4f3_62 ?_
    refine z_iload C0 hl 2 rfl dJ6_getChars_ba4f3_65 ?_
    refine z_tabb C0 Wd (zc_T4 C0) (by omega) (by omega) (by decide) (show Value.int (zI (48 + ((((x0 % 100)).toNat : Nat) : Int) / 10)) = .int (zI (48 + (x0 % 100) / 10)) by rw [Int.toNat_of_nonneg (by omega)]) dJ6_getChars_ba4f3_67 ?_
    refine z_bast C0 Wd zb7 zK403 zL403 (by omega) (by omega) (by decide) (by omega) dJ6_getChars_ba4f3_68 (fun H locs Wd => ?_)
    refine z_goto C0 (tgt := 22) dJ6_getChars_ba4f3_69 (by decide) ?_
    refine z_iload_n C0 hl 1 rfl dJ6_getChars_ba4f3_22 ?_
    refine z_bipush C0 dJ6_getChars_ba4f3_23 (by decide) ?_
    refine z_icmp_gt C0 (tgt := 72) (zR_mk (by omega) (by omega)) (zR_mk (by decide) (by decide)) dJ6_getChars_ba4f3_25 (by decide) (fun c7 => ?_) (fun c7 => absurd c7 (by omega))
    refine z_aload_n C0 hl 6 rfl dJ6_getChars_ba4f3_72 ?_
    refine z_iinc C0 hl 0 (t := ((x1 - 1) - 1)) (u := (((x1 - 1) - 1) - 1)) rfl (by omega) [(5, .int (zI (((x1 - 1) - 1) - 1))), (0, .int (zI (-(x0 / 100)))), (4, .int (zI (x0 % 100))), (3, .int (zI (-(x0 / 100)))), (6, .int (zI 0)), (1, .int (zI x1)), (2, .ref (ad 403))] (by decide) rfl dJ6_getChars_ba4f3_73 (fun ls hl => ?_)
    refine z_iload C0 hl 0 rfl dJ6_getChars_ba4f3_76 ?_
    refine z_gets C0 Wd (zc_S3 C0) zk_1138 dJ6_getChars_ba4f3_78 ?_
    refine z_iload_n C0 hl 1 rfl dJ6_getChars_ba4f3_81 ?_
    refine z_ineg C0 dJ6_getChars_ba4f3_82 ?_
    refine z_top (show zI (-(-(x0 / 100))) = zI (x0 / 100) from congrArg zI (by omega)) ?_
    refine z_tabb C0 Wd (zc_T3 C0) (by omega) (by omega) (by decide) (show Value.int (zI (48 + ((((x0 / 100)).toNat : Nat) : Int) % 10)) = .int (zI (48 + (x0 / 100) % 10)) by rw [Int.toNat_of_nonneg (by omega)]) dJ6_getChars_ba4f3_83 ?_
    refine z_bast C0 Wd zb7 zK403 zL403 (by omega) (by omega) (by decide) (by omega) dJ6_getChars_ba4f3_84 (fun H locs Wd => ?_)
    refine z_iload_n C0 hl 1 rfl dJ6_getChars_ba4f3_85 ?_
    refine z_bipush C0 dJ6_getChars_ba4f3_86 (by decide) ?_
    refine z_icmp_ge C0 (tgt := 104) (zR_mk (by omega) (by omega)) (zR_mk (by decide) (by decide)) dJ6_getChars_ba4f3_88 (by decide) (fun c8 => ?_) (fun c8 => ?_)
    · skip
      refine z_iload C0 hl 4 rfl dJ6_getChars_ba4f3_104 ?_
      refine z_if_eq C0 (tgt := 118) (zR_mk (by decide) (by decide)) dJ6_getChars_ba4f3_106 (by decide) (fun _ => ?_) (fun h => absurd h (by decide))
      refine z_iload C0 hl 0 rfl dJ6_getChars_ba4f3_118 ?_
      exact z_iret C0 Wd hret hlk (by have q0 := hx1.1; have p0 := hx1.2; exact zR_mk (by omega) (by omega)) ⟨by unfold zlen; rw [if_neg (by omega), if_neg (by omega), if_pos (by omega)]; try omega, by unfold zgchG; rw [if_neg (by omega), if_neg (by omega), if_pos (by omega)], rfl⟩ dJ6_getChars_ba4f3_120
    · skip
      refine z_aload_n C0 hl 6 rfl dJ6_getChars_ba4f3_91 ?_
      refine z_iinc C0 hl 0 (t := (((x1 - 1) - 1) - 1)) (u := ((((x1 - 1) - 1) - 1) - 1)) rfl (by omega) [(5, .int (zI ((((x1 - 1) - 1) - 1) - 1))), (0, .int (zI (-(x0 / 100)))), (4, .int (zI (x0 % 100))), (3, .int (zI (-(x0 / 100)))), (6, .int (zI 0)), (1, .int (zI x1)), (2, .ref (ad 403))] (by decide) rfl dJ6_getChars_ba4f3_92 (fun ls hl => ?_)
      refine z_iload C0 hl 0 rfl dJ6_getChars_ba4f3_95 ?_
      refine z_gets C0 Wd (zc_S4 C0) zk_1140 dJ6_getChars_ba4f3_97 ?_
      refine z_iload_n C0 hl 1 rfl dJ6_getChars_ba4f3_100 ?_
      refine z_ineg C0 dJ6_getChars_ba4f3_101 ?_
      refine z_top (show zI (-(-(x0 / 100))) = zI (x0 / 100) from congrArg zI (by omega)) ?_
      refine z_tabb C0 Wd (zc_T4 C0) (by omega) (by omega) (by decide) (show Value.int (zI (48 + ((((x0 / 100)).toNat : Nat) : Int) / 10)) = .int (zI (48 + (x0 / 100) / 10)) by rw [Int.toNat_of_nonneg (by omega)]) dJ6_getChars_ba4f3_102 ?_
      refine z_bast C0 Wd zb7 zK403 zL403 (by omega) (by omega) (by decide) (by omega) dJ6_getChars_ba4f3_103 (fun H locs Wd => ?_)
      refine z_iload C0 hl 4 rfl dJ6_getChars_ba4f3_104 ?_
      refine z_if_eq C0 (tgt := 118) (zR_mk (by decide) (by decide)) dJ6_getChars_ba4f3_106 (by decide) (fun _ => ?_) (fun h => absurd h (by decide))
      refine z_iload C0 hl 0 rfl dJ6_getChars_ba4f3_118 ?_
      exact z_iret C0 Wd hret hlk (by have q0 := hx1.1; have p0 := hx1.2; exact zR_mk (by omega) (by omega)) ⟨by unfold zlen; rw [if_neg (by omega), if_neg (by omega), if_neg (by omega), if_pos (by omega)]; try omega, by unfold zgchG; rw [if_neg (by omega), if_neg (by omega), if_neg (by omega)], rfl⟩ dJ6_getChars_ba4f3_120
set_option maxHeartbeats 4000000 in
set_option maxRecDepth 100000 in
theorem ct_J5_append_c97b9G (l : Launch) (g : zG) (N : zNs) (zb6 : zIn N 402) (zb7 : zIn N 403) (ad : Int → Nat) (zM0 zF0 : zMem) (x0 : Int) (hx0 : zR x0) (hc : zM0 402 1 = 0) (h0 : 0 ≤ x0 ∧ x0 < 10000) (h3 : 0 ≤ zM0 402 3 ∧ zM0 402 3 + zlen x0 ≤ 34) : zMt l yJ5_append_c97b9 cJ5_append_c97b9 4 (some (.object "java/lang/AbstractStringBuilder")) 2 0 0 g N ad [.ref (ad 402), .int (zI x0)] zM0 zF0 (zPr ad (fun r M' F' => 402 = r ∧ (zapIG x0 zM0) = M' ∧ zF0 = F')) := by
  refine zMt.of "java/lang/AbstractStringBuilder" rfl (by decide +kernel) (Nat.le_of_ble_eq_true rfl) (fun {p e s m args below meth c ls} C0 Wd hl hret hlk hin => ?_)
  have hl : lv_has ls 4 [(0, .ref (ad 402)), (1, .int (zI x0))] := hl
  have hzl := zlen_b x0
  refine z_aload_n C0 hl 0 rfl dJ5_append_c97b9_0 ?_
  refine zg_10_3 C0 Wd zb6 zK402 zk_332 dJ5_append_c97b9_1 ?_
  have hz1 : zR (zM0 402 3) := Wd.rm _ _
  refine z_istore_n C0 hl [(2, .int (zI (zM0 402 3))), (0, .ref (ad 402)), (1, .int (zI x0))] (by decide) rfl dJ5_append_c97b9_4 (fun ls hl => ?_)
  refine z_iload_n C0 hl 0 rfl dJ5_append_c97b9_5 ?_
  refine z_iload_n C0 hl 2 rfl dJ5_append_c97b9_6 ?_
  refine z_invSi (As := [.int (zI x0)]) (rest := [.int (zI (zM0 402 3))]) C0 Wd (ct_J6_stringSize_0f7a4G l g N zb6 zb7 ad zM0 zF0 x0 hx0 (by omega)) kv_J6_stringSize_0f7a4 zk_1132 rfl hl.1 rfl (Nat.le_of_ble_eq_true rfl) (by decide) (by decide) dJ5_append_c97b9_7 (fun r2 zMr2 zFr2 H locs hrr2 hp Wd => ?_)
  obtain ⟨rfl, rfl, rfl⟩ := hp
  refine z_iadd C0 dJ5_append_c97b9_10 ?_
  refine z_istore_n C0 hl [(3, .int (zI ((zM0 402 3) + (zlen x0)))), (2, .int (zI (zM0 402 3))), (0, .ref (ad 402)), (1, .int (zI x0))] (by decide) rfl dJ5_append_c97b9_11 (fun ls hl => ?_)
  refine z_aload_n C0 hl 2 rfl dJ5_append_c97b9_12 ?_
  refine z_iload_n C0 hl 0 rfl dJ5_append_c97b9_13 ?_
  refine z_invP (As := [.int (zI ((zM0 402 3) + (zlen x0)))]) (rest := []) C0 Wd (ct_J5_ensureCapacityInternal_d00dfG l g N zb6 zb7 ad zM0 zF0 ((zM0 402 3) + (zlen x0)) (by have q0 := hrr2.1; have p0 := hrr2.2; have q1 := hz1.1; have p1 := hz1.2; exact zR_mk (by omega) (by omega)) (by omega) (by omega)) kp_ensure (zrecvW C0 Wd zb6 (zE_10 zK402) rfl) zk_1020 rfl hl.1 rfl (Nat.le_of_ble_eq_true rfl) (by decide) (by decide) dJ5_append_c97b9_14 (z_kkv (fun zMr4 zFr4 H locs hp Wd => ?_))
  obtain ⟨rfl, rfl⟩ := hp
  refine z_aload_n C0 hl 2 rfl dJ5_append_c97b9_17 ?_
  refine z_invO (As := []) (rest := []) C0 Wd (ct_J5_isLatin1_aae02G l g N zb6 zb7 ad zM0 zF0 (by omega)) ks_isLatin1 (zrecvW C0 Wd zb6 (zE_10 zK402) rfl) zk_1051 rfl hl.1 rfl (Nat.le_of_ble_eq_true rfl) (by decide) (by decide) dJ5_append_c97b9_18 (z_kki (fun r6 zMr6 zFr6 H locs hrr6 hp Wd => ?_))
  obtain ⟨rfl, rfl, rfl⟩ := hp
  refine z_if_eq C0 (tgt := 37) (zR_mk (by decide) (by decide)) dJ5_append_c97b9_21 (by decide) (fun h => absurd h (by decide)) (fun _ => ?_)
  refine z_iload_n C0 hl 3 rfl dJ5_append_c97b9_24 ?_
  refine z_iload_n C0 hl 0 rfl dJ5_append_c97b9_25 ?_
  refine z_aload_n C0 hl 2 rfl dJ5_append_c97b9_26 ?_
  refine zg_10_0 C0 Wd zb6 zK402 zk_328 dJ5_append_c97b9_27 ?_
  refine z_rf (show (402 + 1) = 403 by decide) ?_
  refine z_invSi (As := [.int (zI x0), .int (zI ((zM0 402 3) + (zlen x0))), .ref (ad 403)]) (rest := []) C0 Wd (ct_J6_getChars_ba4f3G l g N zb6 zb7 ad zM0 zF0 x0 hx0 ((zM0 402 3) + (zlen x0)) (by have q0 := hrr2.1; have p0 := hrr2.2; have q1 := hz1.1; have p1 := hz1.2; exact zR_mk (by omega) (by omega)) (by omega) (by omega)) kv_J6_getChars_ba4f3 zk_1135 rfl hl.1 rfl (Nat.le_of_ble_eq_true rfl) (by decide) (by decide) dJ5_append_c97b9_30 (fun r9 zMr9 zFr9 H locs hrr9 hp Wd => ?_)
  obtain ⟨rfl, rfl, rfl⟩ := hp
  refine z_pop C0 rfl dJ5_append_c97b9_33 ?_
  refine z_goto C0 (tgt := 48) dJ5_append_c97b9_34 (by decide) ?_
  refine z_aload_n C0 hl 2 rfl dJ5_append_c97b9_48 ?_
  refine z_iload_n C0 hl 0 rfl dJ5_append_c97b9_49 ?_
  refine zp_10_3 C0 Wd zb6 zK402 (by have q0 := hrr2.1; have p0 := hrr2.2; have q1 := hz1.1; have p1 := hz1.2; exact zR_mk (by omega) (by omega)) zk_332 dJ5_append_c97b9_50 (fun H locs Wd => ?_)
  refine z_aload_n C0 hl 2 rfl dJ5_append_c97b9_53 ?_
  exact z_aret C0 Wd hret hlk ⟨rfl, rfl, rfl⟩ dJ5_append_c97b9_54
set_option maxHeartbeats 4000000 in
set_option maxRecDepth 100000 in
theorem ct_J4_append_bf812G (l : Launch) (g : zG) (N : zNs) (zb6 : zIn N 402) (zb7 : zIn N 403) (ad : Int → Nat) (zM0 zF0 : zMem) (x0 : Int) (hx0 : zR x0) (hc : zM0 402 1 = 0) (h0 : 0 ≤ x0 ∧ x0 < 10000) (h3 : 0 ≤ zM0 402 3 ∧ zM0 402 3 + zlen x0 ≤ 34) : zMt l yJ4_append_bf812 cJ4_append_bf812 2 (some (.object "java/lang/StringBuilder")) 3 0 0 g N ad [.ref (ad 402), .int (zI x0)] zM0 zF0 (zPr ad (fun r M' F' => 402 = r ∧ (zapIG x0 zM0) = M' ∧ zF0 = F')) := by
  refine zMt.of "java/lang/StringBuilder" rfl (by decide +kernel) (Nat.le_of_ble_eq_true rfl) (fun {p e s m args below meth c ls} C0 Wd hl hret hlk hin => ?_)
  have hl : lv_has ls 2 [(0, .ref (ad 402)), (1, .int (zI x0))] := hl
  have hzl := zlen_b x0
  refine z_aload_n C0 hl 0 rfl dJ4_append_bf812_0 ?_
  refine z_iload_n C0 hl 1 rfl dJ4_append_bf812_1 ?_
  refine z_invSU (As := [.int (zI x0)]) (rest := []) C0 Wd (ct_J5_append_c97b9G l g N zb6 zb7 ad zM0 zF0 x0 hx0 (by omega) (by omega) (by omega)) ku_J5_append_c97b9 (zrecvW C0 Wd zb6 (zE_10 zK402) rfl) zk_1129 rfl hl.1 rfl (Nat.le_of_ble_eq_true rfl) (by decide) (by decide) dJ4_append_bf812_2 (z_kkr (fun r1 zMr1 zFr1 H locs hp Wd => ?_))
  obtain ⟨rfl, rfl, rfl⟩ := hp
  refine z_pop C0 rfl dJ4_append_bf812_5 ?_
  refine z_aload_n C0 hl 0 rfl dJ4_append_bf812_6 ?_
  exact z_aret C0 Wd hret hlk ⟨rfl, rfl, rfl⟩ dJ4_append_bf812_7
theorem zapI_rowG {x : Int} {M : zMem} {i : Int} (h1 : i ≠ 402) (h2 : i ≠ 403) (j : Int) : zapIG x M i j = M i j := by
  unfold zapIG
  rw [zu_ne (by omega), zgch_rowG h2]
theorem zapI_nG {x : Int} {M : zMem} : zapIG x M 402 3 = M 402 3 + zlen x := zu_same _ _ _ _
theorem zapI_cG {x : Int} {M : zMem} : zapIG x M 402 1 = M 402 1 := by
  unfold zapIG
  rw [zu_ne (by omega), zgch_rowG (by omega)]
def zTxG (M : zMem) (L : List Int) : Prop := M 402 1 = 0 ∧ M 402 3 = L.length ∧ ∀ j : Nat, j < L.length → L[j]? = some (M 403 (j : Int))
theorem zTx_IG {M : zMem} {L : List Int} {x : Int} (hx : x < 10000) (h : zTxG M L) : zTxG (zapIG x M) (L ++ zdgs x) := by
  obtain ⟨a, b, c⟩ := h
  refine ⟨by rw [zapI_cG]; exact a, by rw [zapI_nG, b, ← zdgs_len hx]; simp, fun j hj => ?_⟩
  rw [List.length_append] at hj
  unfold zapIG
  rw [zu_ne (by omega), b, ← zdgs_len hx]
  have hold : ∀ (M1 : zMem) (i v : Int), (j : Int) ≠ i → zu M1 403 i v 403 (j : Int) = M1 403 (j : Int) := fun M1 i v hi => zu_ne (by omega)
  have hnew : ∀ (M1 : zMem) (i v : Int), (j : Int) = i → zu M1 403 i v 403 (j : Int) = v := fun M1 i v hi => by rw [hi]; exact zu_same _ _ _ _
  by_cases h1 : j < L.length
  · rw [List.getElem?_append_left h1, c j h1]
    congr 1
    symm
    unfold zgchG zdgs
    by_cases q1 : x < 10
    · rw [if_pos q1, if_pos q1, hold _ _ _ (by simp; omega)]
    · rw [if_neg q1, if_neg q1]
      by_cases q2 : x < 100
      · rw [if_pos q2, if_pos q2, hold _ _ _ (by simp; omega), hold _ _ _ (by simp; omega)]
      · rw [if_neg q2, if_neg q2]
        by_cases q3 : x < 1000
        · rw [if_pos q3, if_pos q3, hold _ _ _ (by simp; omega), hold _ _ _ (by simp; omega), hold _ _ _ (by simp; omega)]
        · rw [if_neg q3, if_neg q3, hold _ _ _ (by simp; omega), hold _ _ _ (by simp; omega), hold _ _ _ (by simp; omega), hold _ _ _ (by simp; omega)]
  · rw [List.getElem?_append_right (by omega)]
    obtain ⟨k, rfl⟩ : ∃ k, j = L.length + k := ⟨j - L.length, by omega⟩
    rw [show L.length + k - L.length = k by omega]
    unfold zgchG zdgs at *
    by_cases q1 : x < 10
    · rw [if_pos q1] at hj ⊢
      rw [if_pos q1]
      have hk : k = 0 := by simp at hj; omega
      subst hk
      rw [hnew _ _ _ (by simp)]
      rfl
    · rw [if_neg q1] at hj ⊢
      rw [if_neg q1]
      by_cases q2 : x < 100
      · rw [if_pos q2] at hj ⊢
        rw [if_pos q2]
        have hk : k = 0 ∨ k = 1 := by simp at hj; omega
        rcases hk with rfl | rfl
        · rw [hnew _ _ _ (by simp; omega)]; rfl
        · rw [hold _ _ _ (by simp; omega), hnew _ _ _ (by simp; omega)]; rfl
      · rw [if_neg q2] at hj ⊢
        rw [if_neg q2]
        by_cases q3 : x < 1000
        · rw [if_pos q3] at hj ⊢
          rw [if_pos q3]
          have hk : k = 0 ∨ k = 1 ∨ k = 2 := by simp at hj; omega
          rcases hk with rfl | rfl | rfl
          · rw [hnew _ _ _ (by simp; omega)]; rfl
          · rw [hold _ _ _ (by simp; omega), hnew _ _ _ (by simp; omega)]; rfl
          · rw [hold _ _ _ (by simp; omega), hold _ _ _ (by simp; omega), hnew _ _ _ (by simp; omega)]; rfl
        · rw [if_neg q3] at hj ⊢
          rw [if_neg q3]
          have hk : k = 0 ∨ k = 1 ∨ k = 2 ∨ k = 3 := by simp at hj; omega
          rcases hk with rfl | rfl | rfl | rfl
          · rw [hnew _ _ _ (by simp; omega)]; rfl
          · rw [hold _ _ _ (by simp; omega), hnew _ _ _ (by simp; omega)]; rfl
          · rw [hold _ _ _ (by simp; omega), hold _ _ _ (by simp; omega), hnew _ _ _ (by simp; omega)]; rfl
          · rw [hold _ _ _ (by simp; omega), hold _ _ _ (by simp; omega), hold _ _ _ (by simp; omega), hnew _ _ _ (by simp; omega)]; rfl
def zapSG (bs : List Int32) (M : zMem) : zMem := zu (zrow M 403 (fun j => if M 402 3 ≤ j ∧ j < M 402 3 + bs.length then zsx bs (j - M 402 3) else M 403 j)) 402 3 (M 402 3 + bs.length)
set_option maxHeartbeats 4000000 in
set_option maxRecDepth 100000 in
theorem ct_J0_getBytes_840e7G (l : Launch) (g : zG) (N : zNs) (zb6 : zIn N 402) (zb7 : zIn N 403) (ad : Int → Nat) (zM0 zF0 : zMem) (q : Nat × Nat × List Int32) (hlt : zLt q.2.2) (x1 : Int) (hx1 : zR x1) (h1 : 0 ≤ x1 ∧ x1 + q.2.2.length ≤ 34) : zMs l yJ0_getBytes_840e7 cJ0_getBytes_840e7 4 none 1 0 0 g N ad [q] [.ref q.1, .ref (ad 403), .int (zI x1), .int (zI 0)] zM0 zF0 (zPv (fun M' F' => zrow zM0 403 (fun j => if x1 ≤ j ∧ j < x1 + q.2.2.length then zsx q.2.2 (j - x1) else zM0 403 j) = M' ∧ zF0 = F')) := by
  refine zMs.of "java/lang/String" rfl (by decide +kernel) (Nat.le_of_ble_eq_true rfl) (fun {p e s m args below meth c ls} C0 Wd hl hret hlk hin hS0 => ?_)
  have hS := hS0 q List.mem_cons_self
  have hl : lv_has ls 4 [(0, .ref q.1), (1, .ref (ad 403)), (2, .int (zI x1)), (3, .int (zI 0))] := hl
  have hlq := hlt.1
  refine z_aload_n C0 hl 0 rfl dJ0_getBytes_840e7_0 ?_
  refine z_invVs (As := []) (rest := []) C0 Wd (ct_J0_coder_7d493_s l g N ad zM0 zF0 q hlt) kv_J0_coder_7d493 (hS1 (X := fun z => zStr z.1 z.2.1 z.2.2 _ _ _) hS) (zrecvO C0 Wd hS.1) zk_1086 rfl hl.1 rfl (Nat.le_of_ble_eq_true rfl) (by decide) (by decide) dJ0_getBytes_840e7_1 (z_kki (fun r1 zMr1 zFr1 H locs hrr1 hp Wd => ?_))
  obtain ⟨rfl, rfl, rfl⟩ := hp
  refine z_iload_n C0 hl 3 rfl dJ0_getBytes_840e7_4 ?_
  refine z_icmp_ne C0 (tgt := 28) (zR_mk (by decide) (by decide)) (zR_mk (by decide) (by decide)) dJ0_getBytes_840e7_5 (by decide) (fun h => absurd rfl h) (fun _ => ?_)
  refine z_aload_n C0 hl 0 rfl dJ0_getBytes_840e7_8 ?_
  refine z_getO C0 Wd hS.2.2.1 zk_1206 dJ0_getBytes_840e7_9 ?_
  refine z_iconst C0 dJ0_getBytes_840e7_12 ?_
  refine z_aload_n C0 hl 1 rfl dJ0_getBytes_840e7_13 ?_
  refine z_iload_n C0 hl 2 rfl dJ0_getBytes_840e7_14 ?_
  refine z_iload_n C0 hl 3 rfl dJ0_getBytes_840e7_15 ?_
  refine z_ishl C0 (v := x1) zI_shl0 dJ0_getBytes_840e7_16 ?_
  refine z_aload_n C0 hl 0 rfl dJ0_getBytes_840e7_17 ?_
  refine z_getO C0 Wd hS.2.2.1 zk_1206 dJ0_getBytes_840e7_18 ?_
  refine z_tlen C0 Wd hS.2.2.2 dJ0_getBytes_840e7_21 ?_
  refine z_copyt C0 Wd hl.1 hlt hS.2.2.2 zb7 zK403 zL403 h1.1 h1.2 (by decide) ⟨by decide, by decide⟩ zk_1123 dJ0_getBytes_840e7_22 (fun H locs Wd => ?_)
  refine z_goto C0 (tgt := 43) dJ0_getBytes_840e7_25 (by decide) ?_
  exact z_vret C0 Wd hret hlk ⟨rfl, rfl⟩ dJ0_getBytes_840e7_43
set_option maxHeartbeats 4000000 in
set_option maxRecDepth 100000 in
theorem ct_J5_inflateIfNeededFor_a7421G (l : Launch) (g : zG) (N : zNs) (zb6 : zIn N 402) (zb7 : zIn N 403) (ad : Int → Nat) (zM0 zF0 : zMem) (q : Nat × Nat × List Int32) (hlt : zLt q.2.2) (hc : zM0 402 1 = 0) : zMs l yJ5_inflateIfNeededFor_a7421 cJ5_inflateIfNeededFor_a7421 2 none 1 0 0 g N ad [q] [.ref (ad 402), .ref q.1] zM0 zF0 (zPv (fun M' F' => zM0 = M' ∧ zF0 = F')) := by
  refine zMs.of "java/lang/AbstractStringBuilder" rfl (by decide +kernel) (Nat.le_of_ble_eq_true rfl) (fun {p e s m args below meth c ls} C0 Wd hl hret hlk hin hS0 => ?_)
  have hS := hS0 q List.mem_cons_self
  have hl : lv_has ls 2 [(0, .ref (ad 402)), (1, .ref q.1)] := hl
  refine z_gets C0 Wd (zc_cs C0) zk_319 dJ5_inflateIfNeededFor_a7421_0 ?_
  refine z_top (show (1 : Int32) = zI 1 from rfl) ?_
  refine z_if_eq C0 (tgt := 21) (zR_mk (by decide) (by decide)) dJ5_inflateIfNeededFor_a7421_3 (by decide) (fun h => absurd h (by decide)) (fun _ => ?_)
  refine z_aload_n C0 hl 0 rfl dJ5_inflateIfNeededFor_a7421_6 ?_
  refine zg_10_1 C0 Wd zb6 zK402 zk_329 dJ5_inflateIfNeededFor_a7421_7 ?_
  refine z_top (congrArg zI hc) ?_
  refine z_aload_n C0 hl 1 rfl dJ5_inflateIfNeededFor_a7421_10 ?_
  refine z_invVs (As := []) (rest := [.int (zI 0)]) C0 Wd (ct_J0_coder_7d493_s l g N ad zM0 zF0 q hlt) kv_J0_coder_7d493 (hS1 (X := fun z => zStr z.1 z.2.1 z.2.2 _ _ _) hS) (zrecvO C0 Wd hS.1) zk_1099 rfl hl.1 rfl (Nat.le_of_ble_eq_true rfl) (by decide) (by decide) dJ5_inflateIfNeededFor_a7421_11 (z_kki (fun r1 zMr1 zFr1 H locs hrr1 hp Wd => ?_))
  obtain ⟨rfl, rfl, rfl⟩ := hp
  refine z_icmp_eq C0 (tgt := 21) (zR_mk (by decide) (by decide)) (zR_mk (by decide) (by decide)) dJ5_inflateIfNeededFor_a7421_14 (by decide) (fun _ => ?_) (fun h => absurd rfl h)
  exact z_vret C0 Wd hret hlk ⟨rfl, rfl⟩ dJ5_inflateIfNeededFor_a7421_21
set_option maxHeartbeats 4000000 in
set_option maxRecDepth 100000 in
theorem ct_J5_putStringAt_47b60G (l : Launch) (g : zG) (N : zNs) (zb6 : zIn N 402) (zb7 : zIn N 403) (ad : Int → Nat) (zM0 zF0 : zMem) (q : Nat × Nat × List Int32) (hlt : zLt q.2.2) (x1 : Int) (hx1 : zR x1) (hc : zM0 402 1 = 0) (h1 : 0 ≤ x1 ∧ x1 + q.2.2.length ≤ 34) : zMs l yJ5_putStringAt_47b60 cJ5_putStringAt_47b60 3 none 2 0 0 g N ad [q] [.ref (ad 402), .int (zI x1), .ref q.1] zM0 zF0 (zPv (fun M' F' => zrow zM0 403 (fun j => if x1 ≤ j ∧ j < x1 + q.2.2.length then zsx q.2.2 (j - x1) else zM0 403 j) = M' ∧ zF0 = F')) := by
  refine zMs.of "java/lang/AbstractStringBuilder" rfl (by decide +kernel) (Nat.le_of_ble_eq_true rfl) (fun {p e s m args below meth c ls} C0 Wd hl hret hlk hin hS0 => ?_)
  have hS := hS0 q List.mem_cons_self
  have hl : lv_has ls 3 [(0, .ref (ad 402)), (1, .int (zI x1)), (2, .ref q.1)] := hl
  refine z_aload_n C0 hl 0 rfl dJ5_putStringAt_47b60_0 ?_
  refine z_aload_n C0 hl 2 rfl dJ5_putStringAt_47b60_1 ?_
  refine z_invPs (As := [.ref q.1]) (rest := []) C0 Wd (ct_J5_inflateIfNeededFor_a7421G l g N zb6 zb7 ad zM0 zF0 q hlt hc) kp_J5_inflateIfNeededFor_a7421 (hS1 (X := fun z => zStr z.1 z.2.1 z.2.2 _ _ _) hS) (zrecvW C0 Wd zb6 (zE_10 zK402) rfl) zk_1095 rfl hl.1 rfl (Nat.le_of_ble_eq_true rfl) (by decide) (by decide) dJ5_putStringAt_47b60_2 (z_kkv (fun zMr2 zFr2 H locs hp Wd => ?_))
  obtain ⟨rfl, rfl⟩ := hp
  refine z_aload_n C0 hl 2 rfl dJ5_putStringAt_47b60_5 ?_
  refine z_aload_n C0 hl 0 rfl dJ5_putStringAt_47b60_6 ?_
  refine zg_10_0 C0 Wd zb6 zK402 zk_328 dJ5_putStringAt_47b60_7 ?_
  refine z_rf (show (402 + 1) = 403 by decide) ?_
  refine z_iload_n C0 hl 1 rfl dJ5_putStringAt_47b60_10 ?_
  refine z_aload_n C0 hl 0 rfl dJ5_putStringAt_47b60_11 ?_
  refine zg_10_1 C0 Wd zb6 zK402 zk_329 dJ5_putStringAt_47b60_12 ?_
  refine z_top (congrArg zI hc) ?_
  refine z_invVs (As := [.ref (ad 403), .int (zI x1), .int (zI 0)]) (rest := []) C0 Wd (ct_J0_getBytes_840e7G l g N zb6 zb7 ad zM0 zF0 q hlt x1 hx1 h1) kv_J0_getBytes_840e7 (hS1 (X := fun z => zStr z.1 z.2.1 z.2.2 _ _ _) hS) (zrecvO C0 Wd hS.1) zk_1119 rfl hl.1 rfl (Nat.le_of_ble_eq_true rfl) (by decide) (by decide) dJ5_putStringAt_47b60_15 (z_kkv (fun zMr3 zFr3 H locs hp Wd => ?_))
  obtain ⟨rfl, rfl⟩ := hp
  exact z_vret C0 Wd hret hlk ⟨rfl, rfl⟩ dJ5_putStringAt_47b60_18
set_option maxHeartbeats 4000000 in
set_option maxRecDepth 100000 in
theorem ct_J5_append_cf1ceG (l : Launch) (g : zG) (N : zNs) (zb6 : zIn N 402) (zb7 : zIn N 403) (ad : Int → Nat) (zM0 zF0 : zMem) (q : Nat × Nat × List Int32) (hlt : zLt q.2.2) (hc : zM0 402 1 = 0) (h3 : 0 ≤ zM0 402 3 ∧ zM0 402 3 + q.2.2.length ≤ 34) : zMs l yJ5_append_cf1ce cJ5_append_cf1ce 3 (some (.object "java/lang/AbstractStringBuilder")) 3 0 0 g N ad [q] [.ref (ad 402), .ref q.1] zM0 zF0 (zPr ad (fun r M' F' => 402 = r ∧ (zapSG q.2.2 zM0) = M' ∧ zF0 = F')) := by
  refine zMs.of "java/lang/AbstractStringBuilder" rfl (by decide +kernel) (Nat.le_of_ble_eq_true rfl) (fun {p e s m args below meth c ls} C0 Wd hl hret hlk hin hS0 => ?_)
  have hS := hS0 q List.mem_cons_self
  have hl : lv_has ls 3 [(0, .ref (ad 402)), (1, .ref q.1)] := hl
  have hlq := hlt.1
  refine z_aload_n C0 hl 1 rfl dJ5_append_cf1ce_0 ?_
  refine lv_ifnonnull C0.1.1 C0.1.2.1 (tgt := 9) dJ5_append_cf1ce_1 (by decide) ?_
  refine z_aload_n C0 hl 1 rfl dJ5_append_cf1ce_9 ?_
  refine z_invVs (As := []) (rest := []) C0 Wd (ct_J0_length_8abf5_s l g N ad zM0 zF0 q hlt) kv_J0_length_8abf5 (hS1 (X := fun z => zStr z.1 z.2.1 z.2.2 _ _ _) hS) (zrecvO C0 Wd hS.1) zk_1082 rfl hl.1 rfl (Nat.le_of_ble_eq_true rfl) (by decide) (by decide) dJ5_append_cf1ce_10 (z_kki (fun r1 zMr1 zFr1 H locs hrr1 hp Wd => ?_))
  obtain ⟨rfl, rfl, rfl⟩ := hp
  refine z_istore_n C0 hl [(2, .int (zI (q.2.2.length : Int))), (0, .ref (ad 402)), (1, .ref q.1)] (by decide) rfl dJ5_append_cf1ce_13 (fun ls hl => ?_)
  refine z_aload_n C0 hl 1 rfl dJ5_append_cf1ce_14 ?_
  refine z_aload_n C0 hl 1 rfl dJ5_append_cf1ce_15 ?_
  refine zg_10_3 C0 Wd zb6 zK402 zk_332 dJ5_append_cf1ce_16 ?_
  refine z_iload_n C0 hl 0 rfl dJ5_append_cf1ce_19 ?_
  refine z_iadd C0 dJ5_append_cf1ce_20 ?_
  refine z_invP (As := [.int (zI (zM0 402 3 + (q.2.2.length : Int)))]) (rest := []) C0 Wd (ct_J5_ensureCapacityInternal_d00dfG l g N zb6 zb7 ad zM0 zF0 (zM0 402 3 + (q.2.2.length : Int)) (zR_mk (by omega) (by omega)) hc (by omega)) kp_ensure (zrecvW C0 Wd zb6 (zE_10 zK402) rfl) zk_1020 rfl hl.1 rfl (Nat.le_of_ble_eq_true rfl) (by decide) (by decide) dJ5_append_cf1ce_21 (z_kkv (fun zMr2 zFr2 H locs hp Wd => ?_))
  obtain ⟨rfl, rfl⟩ := hp
  refine z_aload_n C0 hl 1 rfl dJ5_append_cf1ce_24 ?_
  refine z_aload_n C0 hl 1 rfl dJ5_append_cf1ce_25 ?_
  refine zg_10_3 C0 Wd zb6 zK402 zk_332 dJ5_append_cf1ce_26 ?_
  refine z_aload_n C0 hl 2 rfl dJ5_append_cf1ce_29 ?_
  refine z_invPs (As := [.int (zI (zM0 402 3)), .ref q.1]) (rest := []) C0 Wd (ct_J5_putStringAt_47b60G l g N zb6 zb7 ad zM0 zF0 q hlt (zM0 402 3) (Wd.rm _ _) hc (by omega)) kp_J5_putStringAt_47b60 (hS1 (X := fun z => zStr z.1 z.2.1 z.2.2 _ _ _) hS) (zrecvW C0 Wd zb6 (zE_10 zK402) rfl) zk_1091 rfl hl.1 rfl (Nat.le_of_ble_eq_true rfl) (by decide) (by decide) dJ5_append_cf1ce_30 (z_kkv (fun zMr3 zFr3 H locs hp Wd => ?_))
  obtain ⟨rfl, rfl⟩ := hp
  refine z_aload_n C0 hl 1 rfl dJ5_append_cf1ce_33 ?_
  refine z_dup C0 rfl dJ5_append_cf1ce_34 ?_
  refine zg_10_3 C0 Wd zb6 zK402 zk_332 dJ5_append_cf1ce_35 ?_
  refine z_top (congrArg zI (congrFun (zrow_ne (by decide)) _)) ?_
  refine z_iload_n C0 hl 0 rfl dJ5_append_cf1ce_38 ?_
  refine z_iadd C0 dJ5_append_cf1ce_39 ?_
  refine zp_10_3 C0 Wd zb6 zK402 (zR_mk (by omega) (by omega)) zk_332 dJ5_append_cf1ce_40 (fun H locs Wd => ?_)
  refine z_aload_n C0 hl 1 rfl dJ5_append_cf1ce_43 ?_
  exact z_aret C0 Wd hret hlk ⟨rfl, rfl, rfl⟩ dJ5_append_cf1ce_44
set_option maxHeartbeats 4000000 in
set_option maxRecDepth 100000 in
theorem ct_J4_append_15ec4G (l : Launch) (g : zG) (N : zNs) (zb6 : zIn N 402) (zb7 : zIn N 403) (ad : Int → Nat) (zM0 zF0 : zMem) (q : Nat × Nat × List Int32) (hlt : zLt q.2.2) (hc : zM0 402 1 = 0) (h3 : 0 ≤ zM0 402 3 ∧ zM0 402 3 + q.2.2.length ≤ 34) : zMs l yJ4_append_15ec4 cJ4_append_15ec4 2 (some (.object "java/lang/StringBuilder")) 4 0 0 g N ad [q] [.ref (ad 402), .ref q.1] zM0 zF0 (zPr ad (fun r M' F' => 402 = r ∧ (zapSG q.2.2 zM0) = M' ∧ zF0 = F')) := by
  refine zMs.of "java/lang/StringBuilder" rfl (by decide +kernel) (Nat.le_of_ble_eq_true rfl) (fun {p e s m args below meth c ls} C0 Wd hl hret hlk hin hS0 => ?_)
  have hS := hS0 q List.mem_cons_self
  have hl : lv_has ls 2 [(0, .ref (ad 402)), (1, .ref q.1)] := hl
  refine z_aload_n C0 hl 0 rfl dJ4_append_15ec4_0 ?_
  refine z_aload_n C0 hl 1 rfl dJ4_append_15ec4_1 ?_
  refine z_invSUs (As := [.ref q.1]) (rest := []) C0 Wd (ct_J5_append_cf1ceG l g N zb6 zb7 ad zM0 zF0 q hlt hc h3) ku_J5_append_cf1ce (hS1 (X := fun z => zStr z.1 z.2.1 z.2.2 _ _ _) hS) (zrecvW C0 Wd zb6 (zE_10 zK402) rfl) zk_1013 rfl hl.1 rfl (Nat.le_of_ble_eq_true rfl) (by decide) (by decide) dJ4_append_15ec4_2 (z_kkr (fun r1 zMr1 zFr1 H locs hp Wd => ?_))
  obtain ⟨rfl, rfl, rfl⟩ := hp
  refine z_pop C0 rfl dJ4_append_15ec4_5 ?_
  refine z_aload_n C0 hl 0 rfl dJ4_append_15ec4_6 ?_
  exact z_aret C0 Wd hret hlk ⟨rfl, rfl, rfl⟩ dJ4_append_15ec4_7
theorem zTx_SG {M : zMem} {L : List Int} {bs : List Int32} (h : zTxG M L) : zTxG (zapSG bs M) (L ++ bs.map Int32.toInt) := by
  obtain ⟨a, b, c⟩ := h
  have e402 : ∀ j, zapSG bs M 402 j = if j = 3 then M 402 3 + (bs.length : Int) else M 402 j := fun j => by
    unfold zapSG
    by_cases e : j = 3
    · subst e; rw [if_pos rfl, zu_same]
    · rw [if_neg e, zu_ne (by omega), zrow_ne (by decide)]
  have e403 : ∀ j : Int, zapSG bs M 403 j = if M 402 3 ≤ j ∧ j < M 402 3 + (bs.length : Int) then zsx bs (j - M 402 3) else M 403 j := fun j => by
    unfold zapSG
    rw [zu_ne (by omega)]
    exact congrFun (zrow_same _ _ _) j
  refine ⟨by rw [e402, if_neg (by decide)]; exact a, by rw [e402, if_pos rfl, b]; simp, fun j hj => ?_⟩
  rw [e403, b]
  rw [List.length_append, List.length_map] at hj
  by_cases h1 : j < L.length
  · rw [List.getElem?_append_left h1, if_neg (by omega)]
    exact c j h1
  · rw [List.getElem?_append_right (by omega), if_pos (by omega), List.getElem?_map]
    have hk : j - L.length < bs.length := by omega
    unfold zsx
    rw [show ((j : Int) - (L.length : Int)).toNat = j - L.length by omega, List.getD_eq_getElem?_getD, List.getElem?_eq_getElem hk]
    rfl
set_option maxHeartbeats 4000000 in
set_option maxRecDepth 100000 in
theorem ct_J5_getValueG (l : Launch) (g : zG) (N : zNs) (zb6 : zIn N 402) (ad : Int → Nat) (M F : zMem) : zMt l yJ5_getValue_6d5f1 cJ5_getValue_6d5f1 1 (some (.array .byte)) 0 0 0 g N ad [.ref (ad 402)] M F (zPr ad (fun r M' F' => 403 = r ∧ M = M' ∧ F = F')) := by
  refine zMt.of "java/lang/AbstractStringBuilder" rfl (by decide +kernel) (Nat.le_of_ble_eq_true rfl) (fun {p e s m args below meth c ls} C0 Wd hl hret hlk hin => ?_)
  have hl : lv_has ls 1 [(0, .ref (ad 402))] := hl
  refine z_aload_n C0 hl 0 rfl dJ5_getValue_6d5f1_0 ?_
  refine zg_10_0 C0 Wd zb6 zK402 zk_328 dJ5_getValue_6d5f1_1 ?_
  refine z_rf (show (402 + 1) = 403 by decide) ?_
  exact W.aret C0.1.1 C0.1.2.1 hret (Or.inr ⟨_, rfl⟩) (Or.inr ⟨_, rfl⟩) (z_ends C0 Wd ⟨403, rfl, rfl, rfl, rfl⟩) Wd.1.2.2.2.2 dJ5_getValue_6d5f1_4 hlk
abbrev zWnG : zNs := (402, 404, [])
theorem zwnG_b : zIn zWnG 402 := ⟨by decide, by decide⟩
theorem zwnG_v : zIn zWnG 403 := ⟨by decide, by decide⟩
theorem wl_winG {g : zG} {ad : Int → Nat} {M F : zMem} : wl g zWnG ad M F = [(ad 402, .inr (10, [.ref (ad 403), .int (zI (M 402 1)), .int (zI (M 402 2)), .int (zI (M 402 3))])), BAc g (ad 403) 34 (zRow (M 403))] := rfl
set_option maxHeartbeats 4000000 in
set_option maxRecDepth 100000 in
theorem sw_init3G (l : Launch) (g : zG) (ad : Int → Nat) (M F : zMem) (hRM : zRM M) (k n : Nat) (hc : M 402 1 = 0) (hn : M 402 3 = n) (hlt : n < 34) (hb : ∀ j : Nat, j < n → 0 ≤ M 403 (j : Int) ∧ M 403 (j : Int) < 128) : sMt l yJ0_init_db425 cJ0_init_db425 5 none 3 1 60 g [] [] [.ref k, .ref (ad 402), .null] ([(k, .inr (9, [.null, .int 0, .int (zI 0), .int (zI 0)]))] ++ wl g zWnG ad M F) (fun v w1 => v = none ∧ ∃ q, w1 = [STc k q] ++ wl g zWnG ad M F ++ [BAc g q n (zcb (zbl M 403 34) n)]) := by
  refine sMt.of "java/lang/String" rfl (by decide +kernel) (Nat.le_of_ble_eq_true rfl) (fun {p e s m args below meth c ls} C0 Wd hl hret hlk hin hF => ?_)
  have hl : lv_has ls 5 [(0, .ref k), (1, .ref (ad 402)), (2, .null)] := hl
  have hrv : ∀ {H : Heap} {locs : List Loc} {x : Nat × va_E}, rW g (va_A ([(k, .inr (9, [.null, .int 0, .int (zI 0), .int (zI 0)]))] ++ wl g zWnG ad M F) s.heap.size) s.heap ([x] ++ wl g zWnG ad M F) H locs → ∃ cell : Cell, H[ad 402]? = some cell ∧ cell.vm.isStatics = false ∧ s.vm.findClass "java/lang/StringBuilder" = some cell.cls := fun Wd => va_recv (q0 := 1) (ci := 10) (q := (RJ4, TJ4, 4)) C0.2.1 Wd.1 rfl (fs := [.ref (ad 403), .int (zI (M 402 1)), .int (zI (M 402 2)), .int (zI (M 402 3))]) rfl
  refine z_aload_n C0 hl 0 rfl dJ0_init_db425_0 ?_
  refine r_obj C0 Wd zk_1161 hl.1 (by decide) (by decide) dJ0_init_db425_1 ?_
  refine z_aload_n C0 hl 1 rfl dJ0_init_db425_4 ?_
  refine r_invVs (wr := [(k, .inr (9, [.null, .int 0, .int (zI 0), .int (zI 0)]))]) (S := []) (As := []) (rest := []) C0 Wd hRM (zMs_of_t (ct_J5_getValueG l g zWnG zwnG_b ad M F)) kw_J5_getValue_6d5f1 (fun _ h => nomatch h) (hrv Wd) zk_1162 rfl hl.1 rfl (Nat.le_of_ble_eq_true rfl) (by decide) (by decide) dJ0_init_db425_5 (fun v M1 F1 H locs hp hRM1 Wd => ?_)
  obtain ⟨r, rfl, rfl, rfl, rfl⟩ := hp
  refine z_astore_n C0 hl [(3, .ref (ad 403)), (0, .ref k), (1, .ref (ad 402)), (2, .null)] (by decide) rfl dJ0_init_db425_8 (fun ls hl => ?_)
  refine z_aload_n C0 hl 2 rfl dJ0_init_db425_9 ?_
  refine r_invOs (wr := [(k, .inr (9, [.null, .int 0, .int (zI 0), .int (zI 0)]))]) (S := []) (As := []) (rest := []) C0 Wd hRM (zMs_of_t (ct_J4_length_8abf5G l g zWnG zwnG_b zwnG_v ad M F)) ko_length (fun _ h => nomatch h) (hrv Wd) zk_1167 rfl hl.1 rfl (Nat.le_of_ble_eq_true rfl) (by decide) (by decide) dJ0_init_db425_10 (fun v M1 F1 H locs hp hRM1 Wd => ?_)
  obtain ⟨r, rfl, hr, rfl, rfl, rfl⟩ := hp
  refine z_top (congrArg zI hn) ?_
  refine z_istore C0 hl [(4, .int (zI (n : Int))), (3, .ref (ad 403)), (0, .ref k), (1, .ref (ad 402)), (2, .null)] (by decide) rfl dJ0_init_db425_13 (fun ls hl => ?_)
  refine z_aload_n C0 hl 3 rfl dJ0_init_db425_15 ?_
  refine r_invVs (wr := [(k, .inr (9, [.null, .int 0, .int (zI 0), .int (zI 0)]))]) (S := []) (As := []) (rest := []) C0 Wd hRM (zMs_of_t (ct_J5_isLatin1_aae02G l g zWnG zwnG_b zwnG_v ad M F hc)) ks_isLatin1 (fun _ h => nomatch h) (hrv Wd) zk_1175 rfl hl.1 rfl (Nat.le_of_ble_eq_true rfl) (by decide) (by decide) dJ0_init_db425_16 (fun v M1 F1 H locs hp hRM1 Wd => ?_)
  obtain ⟨r, rfl, hr, rfl, rfl, rfl⟩ := hp
  refine z_if_eq C0 (tgt := 41) (zR_mk (by decide) (by decide)) dJ0_init_db425_19 (by decide) (fun h => absurd h (by decide)) (fun _ => ?_)
  refine z_aload_n C0 hl 2 rfl dJ0_init_db425_22 ?_
  refine z_iconst C0 dJ0_init_db425_23 ?_
  refine r_putF C0 Wd inZ_S tyJ0 tyJ0_ok nmJ0 (q0 := 0) rfl rfl (k := 1) (by decide) zk_1207 (fun _ h => h) rfl (hin rfl) rfl rfl rfl (Nat.le_of_ble_eq_true rfl) dJ0_init_db425_24 (fun H locs Wd => ?_)
  replace Wd := r_eq Wd (w1 := [(k, .inr (9, [.null, .int 0, .int (zI 0), .int (zI 0)]))] ++ wl g zWnG ad M F) rfl
  refine z_aload_n C0 hl 2 rfl dJ0_init_db425_27 ?_
  refine z_aload_n C0 hl 1 rfl dJ0_init_db425_28 ?_
  refine z_iconst C0 dJ0_init_db425_29 ?_
  refine z_iload C0 hl 0 rfl dJ0_init_db425_30 ?_
  have hmem : (ad 403, Sum.inl (g.2.2.1 11, (zbl M 403 34).length, Sum.inl (zRow (M 403)))) ∈ ([(k, .inr (9, [.null, .int 0, .int (zI 0), .int (zI 0)]))] ++ wl g zWnG ad M F : va_W) := by
    rw [zbl_len, wl_winG]
    exact List.mem_cons_of_mem _ (List.mem_cons_of_mem _ List.mem_cons_self)
  have hX : zFa [] [(ad 403, zbl M 403 34)] (va_A [] H.size) s H := ⟨fun _ h => (nomatch h), fun t ht => by
    rw [List.mem_singleton.mp ht]
    exact va_T_of C0 Wd.1 hmem (fun j hj => by rw [zbl_len] at hj; exact (zbl_at hj).symm) (fun h => by
      rcases h with ⟨k9, e9, h⟩ | h
      · exact absurd h (by simp)
      · have := Wd.lt hmem
        exact absurd h (by simp only at this; omega))⟩
  refine s_invS (wr := _) (wc := []) (As := [.ref (ad 403), .int (zI 0), .int (zI (n : Int))]) (rest := [.ref k]) C0 (r_eq Wd (List.append_nil _).symm) (sw_copyOfRange l g (ad 403) (zbl M 403 34) n (by rw [zbl_len]; decide) (fun j hj => by
    have h9 := hb j hj
    have e9 : zsx (zbl M 403 34) (j : Int) = M 403 (j : Int) := by
      unfold zsx
      rw [Int.toNat_natCast, zbl_at (by omega), zI_tr (hRM _ _)]
      rfl
    rw [e9]
    exact h9) (by rw [zbl_len]; exact hlt)) kw_J7_copyOfRange_39247 hX zk_1176 rfl hl.1 rfl (Nat.le_of_ble_eq_true rfl) (by decide) (by decide) dJ0_init_db425_32 (fun v w1 H locs hp Wd => ?_)
  obtain ⟨q, rfl, rfl⟩ := hp
  refine r_putF C0 Wd inZ_S tyJ0 tyJ0_ok nmJ0 (q0 := 0) rfl rfl (k := 0) (by decide) zk_1206 (fun _ h => h) rfl (hin rfl) rfl rfl rfl (Nat.le_of_ble_eq_true rfl) dJ0_init_db425_35 (fun H locs Wd => ?_)
  refine z_goto C0 (tgt := 97) dJ0_init_db425_38 (by decide) ?_
  exact r_vret C0 Wd hret hlk ⟨rfl, q, rfl⟩ dJ0_init_db425_97
set_option maxHeartbeats 4000000 in
set_option maxRecDepth 100000 in
theorem sw_init1G (l : Launch) (g : zG) (ad : Int → Nat) (M F : zMem) (hRM : zRM M) (k n : Nat) (hc : M 402 1 = 0) (hn : M 402 3 = n) (hlt : n < 34) (hb : ∀ j : Nat, j < n → 0 ≤ M 403 (j : Int) ∧ M 403 (j : Int) < 128) : sMt l yJ0_init_81219 cJ0_init_81219 2 none 4 1 60 g [] [] [.ref k, .ref (ad 402)] ([(k, .inr (9, [.null, .int 0, .int (zI 0), .int (zI 0)]))] ++ wl g zWnG ad M F) (fun v w1 => v = none ∧ ∃ q, w1 = [STc k q] ++ wl g zWnG ad M F ++ [BAc g q n (zcb (zbl M 403 34) n)]) := by
  refine sMt.of "java/lang/String" rfl (by decide +kernel) (Nat.le_of_ble_eq_true rfl) (fun {p e s m args below meth c ls} C0 Wd hl hret hlk hin hF => ?_)
  have hl : lv_has ls 2 [(0, .ref k), (1, .ref (ad 402))] := hl
  refine z_aload_n C0 hl 0 rfl dJ0_init_81219_0 ?_
  refine z_aload_n C0 hl 1 rfl dJ0_init_81219_1 ?_
  refine lv_null C0.1.1 C0.1.2.1 dJ0_init_81219_2 ?_
  refine s_init (wr := []) (As := [.ref (ad 402), .null]) (rest := []) C0 Wd (sw_init3G l g ad M F hRM k n hc hn hlt hb) kw_J0_init_db425 zFa_0 zk_1158 rfl hl.1 rfl (Nat.le_of_ble_eq_true rfl) (by decide) (by decide) dJ0_init_81219_3 (fun v w1 H locs hp Wd => ?_)
  obtain ⟨rfl, q, rfl⟩ := hp
  exact r_vret C0 Wd hret hlk ⟨rfl, q, rfl⟩ dJ0_init_81219_6
set_option maxHeartbeats 4000000 in
set_option maxRecDepth 100000 in
theorem sw_toStringG (l : Launch) (g : zG) (ad : Int → Nat) (M F : zMem) (hRM : zRM M) (n : Nat) (hc : M 402 1 = 0) (hn : M 402 3 = n) (hlt : n < 34) (hb : ∀ j : Nat, j < n → 0 ≤ M 403 (j : Int) ∧ M 403 (j : Int) < 128) : sMt l yJ4_toString_0e30d cJ4_toString_0e30d 1 (some (.object "java/lang/String")) 5 2 64 g [] [] [.ref (ad 402)] (wl g zWnG ad M F) (fun v w1 => ∃ k q, v = some (.ref k) ∧ w1 = wl g zWnG ad M F ++ [STc k q, BAc g q n (zcb (zbl M 403 34) n)]) := by
  refine sMt.of "java/lang/StringBuilder" rfl (by decide +kernel) (Nat.le_of_ble_eq_true rfl) (fun {p e s m args below meth c ls} C0 Wd hl hret hlk hin hF => ?_)
  have hl : lv_has ls 1 [(0, .ref (ad 402))] := hl
  refine r_new C0 Wd inZ_S tyJ0 tyJ0_ok zk_1154 zk_576 zk_38 (ci := 9) rfl (fs := [.null, .int 0, .int (zI 0), .int (zI 0)]) (by intro j hj; have hc : j = 0 ∨ j = 1 ∨ j = 2 ∨ j = 3 := (by omega); rcases hc with rfl | rfl | rfl | rfl <;> rfl) (by decide) (by decide) dJ4_toString_0e30d_0 (fun k H Wd => ?_)
  refine z_dup C0 rfl dJ4_toString_0e30d_3 ?_
  refine z_aload_n C0 hl 0 rfl dJ4_toString_0e30d_4 ?_
  refine s_init (wr := []) (As := [.ref (ad 402)]) (rest := [.ref k]) C0 (rW.perm Wd (List.perm_append_comm (l₁ := [(k, Sum.inr (9, [Value.null, .int 0, .int (zI 0), .int (zI 0)]))]) (l₂ := wl g zWnG ad M F))) (sw_init1G l g ad M F hRM k n hc hn hlt hb) kw_J0_init_81219 zFa_0 zk_1155 rfl hl.1 rfl (Nat.le_of_ble_eq_true rfl) (by decide) (by decide) dJ4_toString_0e30d_5 (fun v w1 H locs hp Wd => ?_)
  obtain ⟨rfl, q, rfl⟩ := hp
  have Wd := rW.perm Wd (ws' := wl g zWnG ad M F ++ [STc k q, BAc g q n (zcb (zbl M 403 34) n)]) (by
    rw [wl_winG]
    exact List.perm_middle (l₁ := [_, _]) (l₂ := [_]))
  refine W.widen (k := 2) (n := 64) (by decide) (by decide) ?_
  exact r_aret C0 Wd hret (Or.inl ⟨_, rfl⟩) hlk ⟨k, q, rfl, rfl⟩ dJ4_toString_0e30d_8
