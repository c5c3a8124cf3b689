/-! the model: a tick -/
theorem kv_X12_beat : zKS yX12_beat cX12_beat 3 (some .int) 2 := ⟨zk_1907, zk_1906, zk_80, by decide, by decide, by decide +kernel⟩
set_option maxHeartbeats 4000000 in
set_option maxRecDepth 100000 in
theorem ct_X12_beat (l : Launch) (g : zG) (ad : Int → Nat) (zM0 zF0 : zMem) (x0 : Int) (hx0 : zR x0) (x1 : Int) (hx1 : zR x1) (h0 : 0 ≤ x0 ∧ x0 < 16) (h1 : 0 ≤ x1 ∧ x1 ≤ 4) : zMt l yX12_beat cX12_beat 3 (some .int) 0 0 0 g 410 ad [.int (zI x0), .int (zI x1)] zM0 zF0 (zPi (fun r M' F' => zbt x0 x1 = r ∧ zM0 = M' ∧ zF0 = F')) := by
  refine zMt.of "DrumWarrenModel" rfl (by decide) (Nat.le_of_ble_eq_true rfl) (fun {p e s m args below meth c ls} C0 Wd hl hret hlk hin => ?_)
  have hl : lv_has ls 3 [(0, .int (zI x0)), (1, .int (zI x1))] := hl
  refine z_iload_n C0 hl 0 rfl dX12_beat_0 ?_
  refine z_iconst C0 dX12_beat_1 ?_
  refine z_iand C0 (v := (x0 % 2)) (zI_and1 hx0) dX12_beat_2 ?_
  refine z_iload_n C0 hl 0 rfl dX12_beat_3 ?_
  refine z_iconst C0 dX12_beat_4 ?_
  refine z_ishr C0 (v := (x0 / 2)) (zI_shrL (by omega) (by omega) (by decide) (by decide) (by decide)) dX12_beat_5 ?_
  refine z_iconst C0 dX12_beat_6 ?_
  refine z_iand C0 (v := ((x0 / 2) % 2)) (zI_and1 (by have q0 := hx0.1; have p0 := hx0.2; exact zR_mk (by omega) (by omega))) dX12_beat_7 ?_
  refine z_iadd C0 dX12_beat_8 ?_
  refine z_iload_n C0 hl 0 rfl dX12_beat_9 ?_
  refine z_iconst C0 dX12_beat_10 ?_
  refine z_ishr C0 (v := (x0 / 4)) (zI_shrL (by omega) (by omega) (by decide) (by decide) (by decide)) dX12_beat_11 ?_
  refine z_iconst C0 dX12_beat_12 ?_
  refine z_iand C0 (v := ((x0 / 4) % 2)) (zI_and1 (by have q0 := hx0.1; have p0 := hx0.2; exact zR_mk (by omega) (by omega))) dX12_beat_13 ?_
  refine z_iadd C0 dX12_beat_14 ?_
  refine z_iload_n C0 hl 0 rfl dX12_beat_15 ?_
  refine z_iconst C0 dX12_beat_16 ?_
  refine z_ishr C0 (v := (x0 / 8)) (zI_shrL (by omega) (by omega) (by decide) (by decide) (by decide)) dX12_beat_17 ?_
  refine z_iadd C0 dX12_beat_18 ?_
  refine z_istore_n C0 hl [(2, .int (zI ((((x0 % 2) + ((x0 / 2) % 2)) + ((x0 / 4) % 2)) + (x0 / 8)))), (0, .int (zI x0)), (1, .int (zI x1))] (by decide) rfl dX12_beat_19 (fun ls hl => ?_)
  refine z_iload_n C0 hl 2 rfl dX12_beat_20 ?_
  refine z_iconst C0 dX12_beat_21 ?_
  refine z_icmp_ge C0 (tgt := 35) hx1 (zR_mk (by decide) (by decide)) dX12_beat_22 (by decide) (fun c1 => ?_) (fun c1 => ?_)
  · skip
    refine z_iload_n C0 hl 0 rfl dX12_beat_35 ?_
    refine z_iconst C0 dX12_beat_36 ?_
    refine z_iand C0 (v := (((((x0 % 2) + ((x0 / 2) % 2)) + ((x0 / 4) % 2)) + (x0 / 8)) % 2)) (zI_and1 (by have q0 := hx0.1; have p0 := hx0.2; exact zR_mk (by omega) (by omega))) dX12_beat_37 ?_
    exact z_iret C0 Wd hret hlk (by have q0 := hx0.1; have p0 := hx0.2; exact zR_mk (by omega) (by omega)) ⟨by first | (rw [zbt, if_pos (by omega)]; done) | (rw [zbt, if_neg (by omega)]; done), rfl, rfl⟩ dX12_beat_38
  · skip
    refine z_iload_n C0 hl 1 rfl dX12_beat_25 ?_
    refine z_iconst C0 dX12_beat_26 ?_
    refine z_iload_n C0 hl 2 rfl dX12_beat_27 ?_
    refine z_isub C0 dX12_beat_28 ?_
    refine z_ishr C0 (v := (x0 / 2 ^ (3 - x1).toNat)) (zI_shr (by omega) (by omega) (by omega) (by omega)) dX12_beat_29 ?_
    refine z_iconst C0 dX12_beat_30 ?_
    refine z_iand C0 (v := ((x0 / 2 ^ (3 - x1).toNat) % 2)) (zI_and1 (zR_dv (by omega) (by omega))) dX12_beat_31 ?_
    refine z_goto C0 (tgt := 38) dX12_beat_32 (by decide) ?_
    exact z_iret C0 Wd hret hlk (by have q0 := hx0.1; have p0 := hx0.2; have q1 := hx1.1; have p1 := hx1.2; exact zR_mk (by omega) (by omega)) ⟨by first | (rw [zbt, if_pos (by omega)]; done) | (rw [zbt, if_neg (by omega)]; done), rfl, rfl⟩ dX12_beat_38
theorem kv_X12_heard : zKV yX12_heard cX12_heard 3 (some .int) "DrumWarrenModel" 2 := ⟨zk_1939, zk_1938, zk_52, zk_80, by decide, by decide, by decide +kernel⟩
set_option maxHeartbeats 4000000 in
set_option maxRecDepth 100000 in
theorem ct_X12_heard (l : Launch) (g : zG) (ad : Int → Nat) (zM0 zF0 : zMem) (x0 : Int) (hx0 : zR x0) (x1 : Int) (hx1 : zR x1) (h0 : 0 ≤ x0 ∧ x0 < 8) : zMt l yX12_heard cX12_heard 3 (some .int) 0 0 0 g 410 ad [.ref (ad 398), .int (zI x0), .int (zI x1)] zM0 zF0 (zPi (fun r M' F' => (472 + 128 * x0 + x1 % 128) = r ∧ zM0 = M' ∧ zF0 = F')) := by
  refine zMt.of "DrumWarrenModel" rfl (by decide) (Nat.le_of_ble_eq_true rfl) (fun {p e s m args below meth c ls} C0 Wd hl hret hlk hin => ?_)
  have hl : lv_has ls 3 [(0, .ref (ad 398)), (1, .int (zI x0)), (2, .int (zI x1))] := hl
  refine z_sipush C0 dX12_heard_0 (by decide) ?_
  refine z_sipush C0 dX12_heard_3 (by decide) ?_
  refine z_iload_n C0 hl 1 rfl dX12_heard_6 ?_
  refine z_imul C0 dX12_heard_7 ?_
  refine z_iadd C0 dX12_heard_8 ?_
  refine z_iload_n C0 hl 2 rfl dX12_heard_9 ?_
  refine z_bipush C0 dX12_heard_10 (by decide) ?_
  refine z_iand C0 (v := (x1 % 128)) (zI_and127 hx1) dX12_heard_12 ?_
  refine z_iadd C0 dX12_heard_13 ?_
  exact z_iret C0 Wd hret hlk (by have q0 := hx0.1; have p0 := hx0.2; have q1 := hx1.1; have p1 := hx1.2; exact zR_mk (by omega) (by omega)) ⟨by first | rfl | (simp only [zb]; first | rfl | (split <;> omega) | omega) | (simp [zb, *]; done) | omega, by first | rfl | (simp [zb, *]; done), rfl⟩ dX12_heard_14
theorem kv_X12_begins : zKV yX12_begins cX12_begins 6 none "DrumWarrenModel" 0 := ⟨zk_1927, zk_1926, zk_49, zk_80, by decide, by decide, by decide +kernel⟩
set_option maxHeartbeats 4000000 in
set_option maxRecDepth 100000 in
theorem ct_X12_begins (l : Launch) (g : zG) (ad : Int → Nat) (zM0 zF0 : zMem) (zt : Int) (hV : zIV zt (zM0 399)) (ht : zt ≤ 100000000) : zMt l yX12_begins cX12_begins 6 none 2 0 0 g 410 ad [.ref (ad 398)] zM0 zF0 (zPv (fun M' F' => (zrow zM0 399 (zBegs (zM0 399))) = M' ∧ zF0 = F')) := by
  refine zMt.of "DrumWarrenModel" rfl (by decide) (Nat.le_of_ble_eq_true rfl) (fun {p e s m args below meth c ls} C0 Wd hl hret hlk hin => ?_)
  have hl : lv_has ls 6 [(0, .ref (ad 398))] := hl
  obtain ⟨hc0, hc1, hc2, hcs, hT, hH, hM, hR⟩ := id hV
  replace Wd : zW g _ s.heap 410 ad (zrow zM0 399 (zM0 399)) _ s.heap [] := (by rw [zrow_eta]; exact Wd)
  refine z_iconst C0 dX12_begins_0 ?_
  refine z_istore_n C0 hl [(1, .int (zI 0)), (0, .ref (ad 398))] (by decide) rfl dX12_begins_1 (fun ls hl => ?_)
  have aft2 : ∀ (k2 : Nat) (hk2 : (k2 : Int) ≤ (zM0 399 0)) (v2 : Int → Int) (hv2 : v2 = zfold (fun c W => zBeg1 c W) k2 (zM0 399)) (hx2 : (k2 : Int) = (zM0 399 0)) (H : Heap) (locs : List Loc) (ls : Array Slot) (Wd : zW g (zA 410 ad s.heap.size) s.heap 410 ad (zrow zM0 399 v2) zF0 H locs) (hl : lv_has ls 6 [(0, .ref (ad 398)), (1, .int (zI (k2 : Int)))]), W p l e (zrm 2 0 0) s m args below meth c H locs 0 0 (zMQ below g 410 ad (zPv (fun M' F' => (zrow zM0 399 (zBegs (zM0 399))) = M' ∧ zF0 = F')) args s 0 0) (F0 m 135 ls []) := by
    intro k2 hk2 v2 hv2 hx2 H locs ls Wd hl
    replace hl : lv_has ls 6 [(0, .ref (ad 398))] := lv_sub hl [0] rfl
    have e2k : (zM0 399 0).toNat = k2 := by omega
    exact z_vret C0 Wd hret hlk ⟨by rw [hv2, zBegs, e2k], rfl⟩ dX12_begins_135
  have lp2 : ∀ (d2 k2 : Nat) (hk2 : (k2 : Int) + d2 = (zM0 399 0)) (v2 : Int → Int) (hv2 : v2 = zfold (fun c W => zBeg1 c W) k2 (zM0 399)) (H : Heap) (locs : List Loc) (ls : Array Slot) (Wd : zW g (zA 410 ad s.heap.size) s.heap 410 ad (zrow zM0 399 v2) zF0 H locs) (hl : lv_has ls 6 [(0, .ref (ad 398)), (1, .int (zI (k2 : Int)))]), W p l e (zrm 2 0 0) s m args below meth c H locs 0 0 (zMQ below g 410 ad (zPv (fun M' F' => (zrow zM0 399 (zBegs (zM0 399))) = M' ∧ zF0 = F')) args s 0 0) (F0 m 2 ls []) := by
    intro d2
    induction d2 with
    | zero =>
      intro k2 hk2 v2 hv2 H locs ls Wd hl
      obtain ⟨hI2, hlo2⟩ := zBegK_keep hV k2
      rw [← hv2] at hI2 hlo2
      have e20 := hlo2 0 (by decide)
      have e22 := hlo2 2 (by decide)
      have hM2 := hI2.2.2.2.2.2.2.1
      have hH2 := hI2.2.2.2.2.2.1
      have e21 := hlo2 1 (by decide)
      refine z_iload_n C0 hl 1 rfl dX12_begins_2 ?_
      refine z_aload_n C0 hl 0 rfl dX12_begins_3 ?_
      refine zg_9_0 C0 Wd zN398 zK398 zk_1612 dX12_begins_4 ?_
      refine z_iconst C0 dX12_begins_7 ?_
      refine z_iald C0 Wd zN399 zK399 zL399 (by decide) (by decide) (by decide) dX12_begins_8 ?_
      obtain ⟨he3, hz1⟩ : ((zrow zM0 399 v2) 399 0) = (v2 0) ∧ zR (v2 0) := (fun q => ⟨q, q ▸ Wd.rm _ _⟩) (congrFun (zrow_same _ _ _) _)
      refine z_top (congrArg zI he3) ?_
      clear he3
      refine z_icmp_ge C0 (tgt := 135) (zR_mk (by omega) (by omega)) hz1 dX12_begins_9 (by decide) (fun c4 => ?_) (fun c4 => ?_)
      · skip
        first | exact aft2 k2 (by omega) v2 hv2 (by first | assumption | omega) _ _ _ Wd (lv_sub hl [0, 1] rfl) | (exfalso; omega)
      · skip
        exfalso; omega
    | succ d2 ih2 =>
      intro k2 hk2 v2 hv2 H locs ls Wd hl
      obtain ⟨hI2, hlo2⟩ := zBegK_keep hV k2
      rw [← hv2] at hI2 hlo2
      have e20 := hlo2 0 (by decide)
      have e22 := hlo2 2 (by decide)
      have hM2 := hI2.2.2.2.2.2.2.1
      have hH2 := hI2.2.2.2.2.2.1
      have e21 := hlo2 1 (by decide)
      refine z_iload_n C0 hl 1 rfl dX12_begins_2 ?_
      refine z_aload_n C0 hl 0 rfl dX12_begins_3 ?_
      refine zg_9_0 C0 Wd zN398 zK398 zk_1612 dX12_begins_4 ?_
      refine z_iconst C0 dX12_begins_7 ?_
      refine z_iald C0 Wd zN399 zK399 zL399 (by decide) (by decide) (by decide) dX12_begins_8 ?_
      obtain ⟨he7, hz5⟩ : ((zrow zM0 399 v2) 399 0) = (v2 0) ∧ zR (v2 0) := (fun q => ⟨q, q ▸ Wd.rm _ _⟩) (congrFun (zrow_same _ _ _) _)
      refine z_top (congrArg zI he7) ?_
      clear he7
      refine z_icmp_ge C0 (tgt := 135) (zR_mk (by omega) (by omega)) hz5 dX12_begins_9 (by decide) (fun c8 => ?_) (fun c8 => ?_)
      · skip
        first | exact aft2 k2 (by omega) v2 hv2 (by first | assumption | omega) _ _ _ Wd (lv_sub hl [0, 1] rfl) | (exfalso; omega)
      · skip
        refine z_iconst C0 dX12_begins_12 ?_
        refine z_istore_n C0 hl [(2, .int (zI (-1))), (0, .ref (ad 398)), (1, .int (zI (k2 : Int)))] (by decide) rfl dX12_begins_13 (fun ls hl => ?_)
        refine z_iconst C0 dX12_begins_14 ?_
        refine z_istore_n C0 hl [(3, .int (zI 1)), (2, .int (zI (-1))), (0, .ref (ad 398)), (1, .int (zI (k2 : Int)))] (by decide) rfl dX12_begins_15 (fun ls hl => ?_)
        refine z_aload_n C0 hl 2 rfl dX12_begins_16 ?_
        refine zg_9_0 C0 Wd zN398 zK398 zk_1612 dX12_begins_17 ?_
        refine z_iconst C0 dX12_begins_20 ?_
        refine z_iald C0 Wd zN399 zK399 zL399 (by decide) (by decide) (by decide) dX12_begins_21 ?_
        obtain ⟨he11, hz9⟩ : ((zrow zM0 399 v2) 399 2) = (v2 2) ∧ zR (v2 2) := (fun q => ⟨q, q ▸ Wd.rm _ _⟩) (congrFun (zrow_same _ _ _) _)
        refine z_top (congrArg zI he11) ?_
        clear he11
        refine z_iconst C0 dX12_begins_22 ?_
        refine z_isub C0 dX12_begins_23 ?_
        refine z_istore C0 hl [(4, .int (zI ((v2 2) - 1))), (3, .int (zI 1)), (2, .int (zI (-1))), (0, .ref (ad 398)), (1, .int (zI (k2 : Int)))] (by decide) rfl dX12_begins_24 (fun ls hl => ?_)
        have aft26 : ∀ (k26 : Nat) (hk26 : (k26 : Int) ≤ (v2 2)) (u2 : Int) (u3 : Int) (hdn : zDn (fun q => zhm v2 q = (k2 : Int) ∧ v2 (96 + 47 * q + 4) = 119) (fun q => zhm v2 q = (k2 : Int) ∧ v2 (96 + 47 * q + 4) = 100) (v2 2 - (k26 : Int)) (v2 2) u2 u3) (hu2 : -1 ≤ u2 ∧ u2 < 8) (hu3 : 0 ≤ u3 ∧ u3 ≤ 1) (hx26 : (k26 : Int) = (v2 2)) (H : Heap) (locs : List Loc) (ls : Array Slot) (Wd : zW g (zA 410 ad s.heap.size) s.heap 410 ad (zrow zM0 399 v2) zF0 H locs) (hl : lv_has ls 6 [(0, .ref (ad 398)), (1, .int (zI (k2 : Int))), (2, .int (zI u2)), (3, .int (zI u3)), (4, .int (zI (v2 2 - 1 - (k26 : Int))))]), W p l e (zrm 2 0 0) s m args below meth c H locs 0 0 (zMQ below g 410 ad (zPv (fun M' F' => (zrow zM0 399 (zBegs (zM0 399))) = M' ∧ zF0 = F')) args s 0 0) (F0 m 105 ls []) := by
          intro k26 hk26 u2 u3 hdn hu2 hu3 hx26 H locs ls Wd hl
          replace hl : lv_has ls 6 [(0, .ref (ad 398)), (1, .int (zI (k2 : Int))), (2, .int (zI u2)), (3, .int (zI u3))] := lv_sub hl [0, 1, 2, 3] rfl
          rw [show v2 2 - (k26 : Int) = 0 by omega] at hdn
          obtain ⟨e1, e2, e3⟩ := zDn_end hdn (by omega)
          have hb1 := zBeg1_is (V := v2) (c := (k2 : Int)) e1 e3 e2
          refine z_iload_n C0 hl 3 rfl dX12_begins_105 ?_
          refine z_if_eq C0 (tgt := 129) (zR_mk (by omega) (by omega)) dX12_begins_106 (by decide) (fun c12 => ?_) (fun c12 => ?_)
          · skip
            refine z_iinc C0 hl 1 (t := (k2 : Int)) (u := ((k2 : Int) + 1)) rfl (by omega) [(1, .int (zI ((k2 : Int) + 1))), (0, .ref (ad 398)), (2, .int (zI u2)), (3, .int (zI u3))] (by decide) rfl dX12_begins_129 (fun ls hl => ?_)
            refine z_goto C0 (tgt := 2) dX12_begins_132 (by decide) ?_
            exact ih2 (k2 + 1) (by omega) v2 (by show _ = zBeg1 (k2 : Int) (zfold (fun c W => zBeg1 c W) k2 (zM0 399)); rw [← hv2]; first | exact (hb1.1 (by assumption) (by assumption)).symm | exact (hb1.2 (Or.inl (by assumption))).symm | exact (hb1.2 (Or.inr (by assumption))).symm) _ _ _ Wd (lv_sub hl [1, 0] rfl)
          · skip
            refine z_iload_n C0 hl 2 rfl dX12_begins_109 ?_
            refine z_if_lt C0 (tgt := 129) (zR_mk (by omega) (by omega)) dX12_begins_110 (by decide) (fun c13 => ?_) (fun c13 => ?_)
            · skip
              refine z_iinc C0 hl 1 (t := (k2 : Int)) (u := ((k2 : Int) + 1)) rfl (by omega) [(1, .int (zI ((k2 : Int) + 1))), (0, .ref (ad 398)), (2, .int (zI u2)), (3, .int (zI u3))] (by decide) rfl dX12_begins_129 (fun ls hl => ?_)
              refine z_goto C0 (tgt := 2) dX12_begins_132 (by decide) ?_
              exact ih2 (k2 + 1) (by omega) v2 (by show _ = zBeg1 (k2 : Int) (zfold (fun c W => zBeg1 c W) k2 (zM0 399)); rw [← hv2]; first | exact (hb1.1 (by assumption) (by assumption)).symm | exact (hb1.2 (Or.inl (by assumption))).symm | exact (hb1.2 (Or.inr (by assumption))).symm) _ _ _ Wd (lv_sub hl [1, 0] rfl)
            · skip
              refine z_aload_n C0 hl 0 rfl dX12_begins_113 ?_
              refine z_iload_n C0 hl 2 rfl dX12_begins_114 ?_
              refine z_iconst C0 dX12_begins_115 ?_
              refine z_bipush C0 dX12_begins_116 (by decide) ?_
              refine z_invVv (As := [.int (zI u2), .int (zI 4), .int (zI 100)]) (rest := []) C0 Wd (ct_X12_sets l g ad (zrow zM0 399 v2) zF0 u2 (zR_mk (by omega) (by omega)) 4 (zR_mk (by decide) (by decide)) 100 (zR_mk (by decide) (by decide)) (by omega)) kv_X12_sets zN398 (zE_9 zK398) rfl zk_1853 rfl hl.1 rfl (Nat.le_of_ble_eq_true rfl) (by decide) (by decide) dX12_begins_118 (fun zMr14 zFr14 H locs hp Wd => ?_)
              obtain ⟨rfl, rfl⟩ := hp
              replace Wd := zW.mem Wd (show _ = (zrow zM0 399 (zup v2 (96 + 47 * u2 + 4) 100)) from (zu_zrow zM0 399 v2 (96 + 47 * u2 + 4) 100))
              refine z_aload_n C0 hl 0 rfl dX12_begins_121 ?_
              refine z_iload_n C0 hl 2 rfl dX12_begins_122 ?_
              refine z_bipush C0 dX12_begins_123 (by decide) ?_
              refine z_iconst C0 dX12_begins_125 ?_
              refine z_invVv (As := [.int (zI u2), .int (zI 6), .int (zI 0)]) (rest := []) C0 Wd (ct_X12_sets l g ad (zrow zM0 399 (zup v2 (96 + 47 * u2 + 4) 100)) zF0 u2 (zR_mk (by omega) (by omega)) 6 (zR_mk (by decide) (by decide)) 0 (zR_mk (by decide) (by decide)) (by omega)) kv_X12_sets zN398 (zE_9 zK398) rfl zk_1853 rfl hl.1 rfl (Nat.le_of_ble_eq_true rfl) (by decide) (by decide) dX12_begins_126 (fun zMr16 zFr16 H locs hp Wd => ?_)
              obtain ⟨rfl, rfl⟩ := hp
              replace Wd := zW.mem Wd (show _ = (zrow zM0 399 (zup (zup v2 (96 + 47 * u2 + 4) 100) (96 + 47 * u2 + 6) 0)) from (zu_zrow zM0 399 (zup v2 (96 + 47 * u2 + 4) 100) (96 + 47 * u2 + 6) 0))
              refine z_iinc C0 hl 1 (t := (k2 : Int)) (u := ((k2 : Int) + 1)) rfl (by omega) [(1, .int (zI ((k2 : Int) + 1))), (0, .ref (ad 398)), (2, .int (zI u2)), (3, .int (zI u3))] (by decide) rfl dX12_begins_129 (fun ls hl => ?_)
              refine z_goto C0 (tgt := 2) dX12_begins_132 (by decide) ?_
              exact ih2 (k2 + 1) (by omega) (zup (zup v2 (96 + 47 * u2 + 4) 100) (96 + 47 * u2 + 6) 0) (by show _ = zBeg1 (k2 : Int) (zfold (fun c W => zBeg1 c W) k2 (zM0 399)); rw [← hv2]; first | exact (hb1.1 (by assumption) (by assumption)).symm | exact (hb1.2 (Or.inl (by assumption))).symm | exact (hb1.2 (Or.inr (by assumption))).symm) _ _ _ Wd (lv_sub hl [1, 0] rfl)
        have lp26 : ∀ (d26 k26 : Nat) (hk26 : (k26 : Int) + d26 = (v2 2)) (u2 : Int) (u3 : Int) (hdn : zDn (fun q => zhm v2 q = (k2 : Int) ∧ v2 (96 + 47 * q + 4) = 119) (fun q => zhm v2 q = (k2 : Int) ∧ v2 (96 + 47 * q + 4) = 100) (v2 2 - (k26 : Int)) (v2 2) u2 u3) (hu2 : -1 ≤ u2 ∧ u2 < 8) (hu3 : 0 ≤ u3 ∧ u3 ≤ 1) (H : Heap) (locs : List Loc) (ls : Array Slot) (Wd : zW g (zA 410 ad s.heap.size) s.heap 410 ad (zrow zM0 399 v2) zF0 H locs) (hl : lv_has ls 6 [(0, .ref (ad 398)), (1, .int (zI (k2 : Int))), (2, .int (zI u2)), (3, .int (zI u3)), (4, .int (zI (v2 2 - 1 - (k26 : Int))))]), W p l e (zrm 2 0 0) s m args below meth c H locs 0 0 (zMQ below g 410 ad (zPv (fun M' F' => (zrow zM0 399 (zBegs (zM0 399))) = M' ∧ zF0 = F')) args s 0 0) (F0 m 26 ls []) := by
          intro d26
          induction d26 with
          | zero =>
            intro k26 hk26 u2 u3 hdn hu2 hu3 H locs ls Wd hl
            refine z_iload C0 hl 4 rfl dX12_begins_26 ?_
            refine z_if_lt C0 (tgt := 105) (zR_mk (by omega) (by omega)) dX12_begins_28 (by decide) (fun c18 => ?_) (fun c18 => ?_)
            · skip
              first | exact aft26 k26 (by omega) u2 u3 hdn hu2 hu3 (by first | assumption | omega) _ _ _ Wd (lv_sub hl [0, 1, 2, 3, 4] rfl) | (exfalso; omega)
            · skip
              exfalso; omega
          | succ d26 ih26 =>
            intro k26 hk26 u2 u3 hdn hu2 hu3 H locs ls Wd hl
            refine z_iload C0 hl 4 rfl dX12_begins_26 ?_
            refine z_if_lt C0 (tgt := 105) (zR_mk (by omega) (by omega)) dX12_begins_28 (by decide) (fun c19 => ?_) (fun c19 => ?_)
            · skip
              first | exact aft26 k26 (by omega) u2 u3 hdn hu2 hu3 (by first | assumption | omega) _ _ _ Wd (lv_sub hl [0, 1, 2, 3, 4] rfl) | (exfalso; omega)
            · skip
              refine z_aload_n C0 hl 0 rfl dX12_begins_31 ?_
              refine z_iload C0 hl 4 rfl dX12_begins_32 ?_
              refine z_invVi (As := [.int (zI (v2 2 - 1 - (k26 : Int)))]) (rest := []) C0 Wd (ct_X12_homeOf l g ad (zrow zM0 399 v2) zF0 (v2 2 - 1 - (k26 : Int)) (zR_mk (by omega) (by omega)) (by omega) (by have hq := (hM2 (v2 2 - 1 - (k26 : Int)) (by omega) (by omega)).2.1; show 0 ≤ v2 (96 + 47 * (v2 2 - 1 - (k26 : Int)) + 1) ∧ v2 (96 + 47 * (v2 2 - 1 - (k26 : Int)) + 1) < 6; omega)) kv_X12_homeOf zN398 (zE_9 zK398) rfl zk_1928 rfl hl.1 rfl (Nat.le_of_ble_eq_true rfl) (by decide) (by decide) dX12_begins_34 (fun r20 zMr20 zFr20 H locs hrr20 hp Wd => ?_)
              obtain ⟨rfl, rfl, rfl⟩ := hp
              refine z_top (show zI ((zrow zM0 399 v2) 399 (72 + 4 * ((zrow zM0 399 v2) 399 (96 + 47 * (v2 2 - 1 - (k26 : Int)) + 1)) + 0)) = zI (v2 (72 + 4 * (v2 (96 + 47 * (v2 2 - 1 - (k26 : Int)) + 1)) + 0)) from rfl) ?_
              replace hrr20 : zR (v2 (72 + 4 * (v2 (96 + 47 * (v2 2 - 1 - (k26 : Int)) + 1)) + 0)) := hrr20
              refine z_iload_n C0 hl 1 rfl dX12_begins_37 ?_
              refine z_icmp_ne C0 (tgt := 45) hrr20 (zR_mk (by omega) (by omega)) dX12_begins_38 (by decide) (fun c22 => ?_) (fun c22 => ?_)
              · skip
                refine z_iconst C0 dX12_begins_45 ?_
                refine z_istore C0 hl [(5, .int (zI 0)), (0, .ref (ad 398)), (1, .int (zI (k2 : Int))), (2, .int (zI u2)), (3, .int (zI u3)), (4, .int (zI (v2 2 - 1 - (k26 : Int))))] (by decide) rfl dX12_begins_46 (fun ls hl => ?_)
                refine z_iload_n C0 hl 4 rfl dX12_begins_48 ?_
                refine z_if_eq C0 (tgt := 73) (zR_mk (by omega) (by omega)) dX12_begins_49 (by decide) (fun c23 => ?_) (fun c23 => ?_)
                · skip
                  refine z_iconst C0 dX12_begins_73 ?_
                  refine z_istore_n C0 hl [(3, .int (zI 0)), (5, .int (zI 0)), (0, .ref (ad 398)), (1, .int (zI (k2 : Int))), (2, .int (zI u2)), (4, .int (zI (v2 2 - 1 - (k26 : Int))))] (by decide) rfl dX12_begins_74 (fun ls hl => ?_)
                  refine z_iload C0 hl 1 rfl dX12_begins_75 ?_
                  refine z_if_eq C0 (tgt := 97) (zR_mk (by decide) (by decide)) dX12_begins_77 (by decide) (fun _ => ?_) (fun h => absurd h (by decide))
                  refine z_iload_n C0 hl 4 rfl dX12_begins_97 ?_
                  refine z_istore_n C0 hl [(2, .int (zI u2)), (3, .int (zI 0)), (5, .int (zI 0)), (0, .ref (ad 398)), (1, .int (zI (k2 : Int))), (4, .int (zI (v2 2 - 1 - (k26 : Int))))] (by decide) rfl dX12_begins_98 (fun ls hl => ?_)
                  refine z_iinc C0 hl 5 (t := (v2 2 - 1 - (k26 : Int))) (u := ((v2 2 - 1 - (k26 : Int)) - 1)) rfl (by omega) [(4, .int (zI ((v2 2 - 1 - (k26 : Int)) - 1))), (2, .int (zI u2)), (3, .int (zI 0)), (5, .int (zI 0)), (0, .ref (ad 398)), (1, .int (zI (k2 : Int)))] (by decide) rfl dX12_begins_99 (fun ls hl => ?_)
                  refine z_goto C0 (tgt := 26) dX12_begins_102 (by decide) ?_
                  rw [show (v2 2 - 1 - (k26 : Int)) - 1 = v2 2 - 1 - ((k26 + 1 : Nat) : Int) by omega] at hl
                  exact ih26 (k26 + 1) (by omega) u2 0 (by rw [show v2 2 - ((k26 + 1 : Nat) : Int) = v2 2 - 1 - (k26 : Int) by omega]; exact zDn_step hdn (by omega) (by omega) (Or.inr ⟨fun z => c22 z.1, rfl⟩) ((Classical.em _).elim (fun z => Or.inl ⟨z, rfl⟩) (fun z => Or.inr ⟨z, c23.symm⟩))) (by omega) (by omega) _ _ _ Wd (lv_sub hl [4, 5, 1, 2, 0] rfl)
                · skip
                  refine z_iload C0 hl 0 rfl dX12_begins_52 ?_
                  refine z_if_eq C0 (tgt := 69) (zR_mk (by decide) (by decide)) dX12_begins_54 (by decide) (fun _ => ?_) (fun h => absurd h (by decide))
                  refine z_iconst C0 dX12_begins_69 ?_
                  refine z_goto C0 (tgt := 74) dX12_begins_70 (by decide) ?_
                  refine z_istore_n C0 hl [(3, .int (zI 1)), (5, .int (zI 0)), (0, .ref (ad 398)), (1, .int (zI (k2 : Int))), (2, .int (zI u2)), (4, .int (zI (v2 2 - 1 - (k26 : Int))))] (by decide) rfl dX12_begins_74 (fun ls hl => ?_)
                  refine z_iload C0 hl 1 rfl dX12_begins_75 ?_
                  refine z_if_eq C0 (tgt := 97) (zR_mk (by decide) (by decide)) dX12_begins_77 (by decide) (fun _ => ?_) (fun h => absurd h (by decide))
                  refine z_iload_n C0 hl 4 rfl dX12_begins_97 ?_
                  refine z_istore_n C0 hl [(2, .int (zI u2)), (3, .int (zI 1)), (5, .int (zI 0)), (0, .ref (ad 398)), (1, .int (zI (k2 : Int))), (4, .int (zI (v2 2 - 1 - (k26 : Int))))] (by decide) rfl dX12_begins_98 (fun ls hl => ?_)
                  refine z_iinc C0 hl 5 (t := (v2 2 - 1 - (k26 : Int))) (u := ((v2 2 - 1 - (k26 : Int)) - 1)) rfl (by omega) [(4, .int (zI ((v2 2 - 1 - (k26 : Int)) - 1))), (2, .int (zI u2)), (3, .int (zI 1)), (5, .int (zI 0)), (0, .ref (ad 398)), (1, .int (zI (k2 : Int)))] (by decide) rfl dX12_begins_99 (fun ls hl => ?_)
                  refine z_goto C0 (tgt := 26) dX12_begins_102 (by decide) ?_
                  rw [show (v2 2 - 1 - (k26 : Int)) - 1 = v2 2 - 1 - ((k26 + 1 : Nat) : Int) by omega] at hl
                  exact ih26 (k26 + 1) (by omega) u2 1 (by rw [show v2 2 - ((k26 + 1 : Nat) : Int) = v2 2 - 1 - (k26 : Int) by omega]; exact zDn_step hdn (by omega) (by omega) (Or.inr ⟨fun z => c22 z.1, rfl⟩) (Or.inr ⟨fun z => c22 z.1, (by omega)⟩)) (by omega) (by omega) _ _ _ Wd (lv_sub hl [4, 5, 1, 2, 0] rfl)
              · skip
                refine z_iconst C0 dX12_begins_41 ?_
                refine z_goto C0 (tgt := 46) dX12_begins_42 (by decide) ?_
                refine z_istore C0 hl [(5, .int (zI 1)), (0, .ref (ad 398)), (1, .int (zI (k2 : Int))), (2, .int (zI u2)), (3, .int (zI u3)), (4, .int (zI (v2 2 - 1 - (k26 : Int))))] (by decide) rfl dX12_begins_46 (fun ls hl => ?_)
                refine z_iload_n C0 hl 4 rfl dX12_begins_48 ?_
                refine z_if_eq C0 (tgt := 73) (zR_mk (by omega) (by omega)) dX12_begins_49 (by decide) (fun c27 => ?_) (fun c27 => ?_)
                · skip
                  refine z_iconst C0 dX12_begins_73 ?_
                  refine z_istore_n C0 hl [(3, .int (zI 0)), (5, .int (zI 1)), (0, .ref (ad 398)), (1, .int (zI (k2 : Int))), (2, .int (zI u2)), (4, .int (zI (v2 2 - 1 - (k26 : Int))))] (by decide) rfl dX12_begins_74 (fun ls hl => ?_)
                  refine z_iload C0 hl 1 rfl dX12_begins_75 ?_
                  refine z_if_eq C0 (tgt := 97) (zR_mk (by decide) (by decide)) dX12_begins_77 (by decide) (fun h => absurd h (by decide)) (fun _ => ?_)
                  refine z_aload_n C0 hl 2 rfl dX12_begins_80 ?_
                  refine z_iload C0 hl 5 rfl dX12_begins_81 ?_
                  refine z_iconst C0 dX12_begins_83 ?_
                  refine z_invVi (As := [.int (zI (v2 2 - 1 - (k26 : Int))), .int (zI 4)]) (rest := []) C0 Wd (ct_X12_of l g ad (zrow zM0 399 v2) zF0 (v2 2 - 1 - (k26 : Int)) (zR_mk (by omega) (by omega)) 4 (zR_mk (by decide) (by decide)) (by omega)) kv_X12_of zN398 (zE_9 zK398) rfl zk_1801 rfl hl.1 rfl (Nat.le_of_ble_eq_true rfl) (by decide) (by decide) dX12_begins_84 (fun r29 zMr29 zFr29 H locs hrr29 hp Wd => ?_)
                  obtain ⟨rfl, rfl, rfl⟩ := hp
                  refine z_top (show zI ((zrow zM0 399 v2) 399 (96 + 47 * (v2 2 - 1 - (k26 : Int)) + 4)) = zI (v2 (96 + 47 * (v2 2 - 1 - (k26 : Int)) + 4)) from rfl) ?_
                  replace hrr29 : zR (v2 (96 + 47 * (v2 2 - 1 - (k26 : Int)) + 4)) := hrr29
                  refine z_bipush C0 dX12_begins_87 (by decide) ?_
                  refine z_icmp_ne C0 (tgt := 97) hrr29 (zR_mk (by decide) (by decide)) dX12_begins_89 (by decide) (fun c31 => ?_) (fun c31 => ?_)
                  · skip
                    refine z_iload_n C0 hl 4 rfl dX12_begins_97 ?_
                    refine z_istore_n C0 hl [(2, .int (zI u2)), (3, .int (zI 0)), (5, .int (zI 1)), (0, .ref (ad 398)), (1, .int (zI (k2 : Int))), (4, .int (zI (v2 2 - 1 - (k26 : Int))))] (by decide) rfl dX12_begins_98 (fun ls hl => ?_)
                    refine z_iinc C0 hl 5 (t := (v2 2 - 1 - (k26 : Int))) (u := ((v2 2 - 1 - (k26 : Int)) - 1)) rfl (by omega) [(4, .int (zI ((v2 2 - 1 - (k26 : Int)) - 1))), (2, .int (zI u2)), (3, .int (zI 0)), (5, .int (zI 1)), (0, .ref (ad 398)), (1, .int (zI (k2 : Int)))] (by decide) rfl dX12_begins_99 (fun ls hl => ?_)
                    refine z_goto C0 (tgt := 26) dX12_begins_102 (by decide) ?_
                    rw [show (v2 2 - 1 - (k26 : Int)) - 1 = v2 2 - 1 - ((k26 + 1 : Nat) : Int) by omega] at hl
                    exact ih26 (k26 + 1) (by omega) u2 0 (by rw [show v2 2 - ((k26 + 1 : Nat) : Int) = v2 2 - 1 - (k26 : Int) by omega]; exact zDn_step hdn (by omega) (by omega) (Or.inr ⟨fun z => c31 z.2, rfl⟩) ((Classical.em _).elim (fun z => Or.inl ⟨z, rfl⟩) (fun z => Or.inr ⟨z, c27.symm⟩))) (by omega) (by omega) _ _ _ Wd (lv_sub hl [4, 5, 1, 2, 0] rfl)
                  · skip
                    refine z_iload C0 hl 5 rfl dX12_begins_92 ?_
                    refine z_goto C0 (tgt := 98) dX12_begins_94 (by decide) ?_
                    refine z_istore_n C0 hl [(2, .int (zI (v2 2 - 1 - (k26 : Int)))), (3, .int (zI 0)), (5, .int (zI 1)), (0, .ref (ad 398)), (1, .int (zI (k2 : Int))), (4, .int (zI (v2 2 - 1 - (k26 : Int))))] (by decide) rfl dX12_begins_98 (fun ls hl => ?_)
                    refine z_iinc C0 hl 5 (t := (v2 2 - 1 - (k26 : Int))) (u := ((v2 2 - 1 - (k26 : Int)) - 1)) rfl (by omega) [(4, .int (zI ((v2 2 - 1 - (k26 : Int)) - 1))), (2, .int (zI (v2 2 - 1 - (k26 : Int)))), (3, .int (zI 0)), (5, .int (zI 1)), (0, .ref (ad 398)), (1, .int (zI (k2 : Int)))] (by decide) rfl dX12_begins_99 (fun ls hl => ?_)
                    refine z_goto C0 (tgt := 26) dX12_begins_102 (by decide) ?_
                    rw [show (v2 2 - 1 - (k26 : Int)) - 1 = v2 2 - 1 - ((k26 + 1 : Nat) : Int) by omega] at hl
                    exact ih26 (k26 + 1) (by omega) (v2 2 - 1 - (k26 : Int)) 0 (by rw [show v2 2 - ((k26 + 1 : Nat) : Int) = v2 2 - 1 - (k26 : Int) by omega]; exact zDn_step hdn (by omega) (by omega) (Or.inl ⟨⟨c22, c31⟩, rfl⟩) ((Classical.em _).elim (fun z => Or.inl ⟨z, rfl⟩) (fun z => Or.inr ⟨z, c27.symm⟩))) (by omega) (by omega) _ _ _ Wd (lv_sub hl [4, 5, 1, 2, 0] rfl)
                · skip
                  refine z_iload C0 hl 0 rfl dX12_begins_52 ?_
                  refine z_if_eq C0 (tgt := 69) (zR_mk (by decide) (by decide)) dX12_begins_54 (by decide) (fun h => absurd h (by decide)) (fun _ => ?_)
                  refine z_aload_n C0 hl 1 rfl dX12_begins_57 ?_
                  refine z_iload C0 hl 5 rfl dX12_begins_58 ?_
                  refine z_iconst C0 dX12_begins_60 ?_
                  refine z_invVi (As := [.int (zI (v2 2 - 1 - (k26 : Int))), .int (zI 4)]) (rest := []) C0 Wd (ct_X12_of l g ad (zrow zM0 399 v2) zF0 (v2 2 - 1 - (k26 : Int)) (zR_mk (by omega) (by omega)) 4 (zR_mk (by decide) (by decide)) (by omega)) kv_X12_of zN398 (zE_9 zK398) rfl zk_1801 rfl hl.1 rfl (Nat.le_of_ble_eq_true rfl) (by decide) (by decide) dX12_begins_61 (fun r33 zMr33 zFr33 H locs hrr33 hp Wd => ?_)
                  obtain ⟨rfl, rfl, rfl⟩ := hp
                  refine z_top (show zI ((zrow zM0 399 v2) 399 (96 + 47 * (v2 2 - 1 - (k26 : Int)) + 4)) = zI (v2 (96 + 47 * (v2 2 - 1 - (k26 : Int)) + 4)) from rfl) ?_
                  replace hrr33 : zR (v2 (96 + 47 * (v2 2 - 1 - (k26 : Int)) + 4)) := hrr33
                  refine z_bipush C0 dX12_begins_64 (by decide) ?_
                  refine z_icmp_eq C0 (tgt := 73) hrr33 (zR_mk (by decide) (by decide)) dX12_begins_66 (by decide) (fun c35 => ?_) (fun c35 => ?_)
                  · skip
                    refine z_iconst C0 dX12_begins_73 ?_
                    refine z_istore_n C0 hl [(3, .int (zI 0)), (5, .int (zI 1)), (0, .ref (ad 398)), (1, .int (zI (k2 : Int))), (2, .int (zI u2)), (4, .int (zI (v2 2 - 1 - (k26 : Int))))] (by decide) rfl dX12_begins_74 (fun ls hl => ?_)
                    refine z_iload C0 hl 1 rfl dX12_begins_75 ?_
                    refine z_if_eq C0 (tgt := 97) (zR_mk (by decide) (by decide)) dX12_begins_77 (by decide) (fun h => absurd h (by decide)) (fun _ => ?_)
                    refine z_aload_n C0 hl 2 rfl dX12_begins_80 ?_
                    refine z_iload C0 hl 5 rfl dX12_begins_81 ?_
                    refine z_iconst C0 dX12_begins_83 ?_
                    refine z_invVi (As := [.int (zI (v2 2 - 1 - (k26 : Int))), .int (zI 4)]) (rest := []) C0 Wd (ct_X12_of l g ad (zrow zM0 399 v2) zF0 (v2 2 - 1 - (k26 : Int)) (zR_mk (by omega) (by omega)) 4 (zR_mk (by decide) (by decide)) (by omega)) kv_X12_of zN398 (zE_9 zK398) rfl zk_1801 rfl hl.1 rfl (Nat.le_of_ble_eq_true rfl) (by decide) (by decide) dX12_begins_84 (fun r37 zMr37 zFr37 H locs hrr37 hp Wd => ?_)
                    obtain ⟨rfl, rfl, rfl⟩ := hp
                    refine z_top (show zI ((zrow zM0 399 v2) 399 (96 + 47 * (v2 2 - 1 - (k26 : Int)) + 4)) = zI (v2 (96 + 47 * (v2 2 - 1 - (k26 : Int)) + 4)) from rfl) ?_
                    replace hrr37 : zR (v2 (96 + 47 * (v2 2 - 1 - (k26 : Int)) + 4)) := hrr37
                    refine z_bipush C0 dX12_begins_87 (by decide) ?_
                    refine z_icmp_ne C0 (tgt := 97) hrr37 (zR_mk (by decide) (by decide)) dX12_begins_89 (by decide) (fun c39 => ?_) (fun c39 => ?_)
                    · skip
                      refine z_iload_n C0 hl 4 rfl dX12_begins_97 ?_
                      refine z_istore_n C0 hl [(2, .int (zI u2)), (3, .int (zI 0)), (5, .int (zI 1)), (0, .ref (ad 398)), (1, .int (zI (k2 : Int))), (4, .int (zI (v2 2 - 1 - (k26 : Int))))] (by decide) rfl dX12_begins_98 (fun ls hl => ?_)
                      refine z_iinc C0 hl 5 (t := (v2 2 - 1 - (k26 : Int))) (u := ((v2 2 - 1 - (k26 : Int)) - 1)) rfl (by omega) [(4, .int (zI ((v2 2 - 1 - (k26 : Int)) - 1))), (2, .int (zI u2)), (3, .int (zI 0)), (5, .int (zI 1)), (0, .ref (ad 398)), (1, .int (zI (k2 : Int)))] (by decide) rfl dX12_begins_99 (fun ls hl => ?_)
                      refine z_goto C0 (tgt := 26) dX12_begins_102 (by decide) ?_
                      rw [show (v2 2 - 1 - (k26 : Int)) - 1 = v2 2 - 1 - ((k26 + 1 : Nat) : Int) by omega] at hl
                      exact ih26 (k26 + 1) (by omega) u2 0 (by rw [show v2 2 - ((k26 + 1 : Nat) : Int) = v2 2 - 1 - (k26 : Int) by omega]; exact zDn_step hdn (by omega) (by omega) (Or.inr ⟨fun z => c39 z.2, rfl⟩) (Or.inl ⟨⟨c22, c35⟩, rfl⟩)) (by omega) (by omega) _ _ _ Wd (lv_sub hl [4, 5, 1, 2, 0] rfl)
                    · skip
                      refine z_iload C0 hl 5 rfl dX12_begins_92 ?_
                      refine z_goto C0 (tgt := 98) dX12_begins_94 (by decide) ?_
                      refine z_istore_n C0 hl [(2, .int (zI (v2 2 - 1 - (k26 : Int)))), (3, .int (zI 0)), (5, .int (zI 1)), (0, .ref (ad 398)), (1, .int (zI (k2 : Int))), (4, .int (zI (v2 2 - 1 - (k26 : Int))))] (by decide) rfl dX12_begins_98 (fun ls hl => ?_)
                      refine z_iinc C0 hl 5 (t := (v2 2 - 1 - (k26 : Int))) (u := ((v2 2 - 1 - (k26 : Int)) - 1)) rfl (by omega) [(4, .int (zI ((v2 2 - 1 - (k26 : Int)) - 1))), (2, .int (zI (v2 2 - 1 - (k26 : Int)))), (3, .int (zI 0)), (5, .int (zI 1)), (0, .ref (ad 398)), (1, .int (zI (k2 : Int)))] (by decide) rfl dX12_begins_99 (fun ls hl => ?_)
                      refine z_goto C0 (tgt := 26) dX12_begins_102 (by decide) ?_
                      rw [show (v2 2 - 1 - (k26 : Int)) - 1 = v2 2 - 1 - ((k26 + 1 : Nat) : Int) by omega] at hl
                      exact ih26 (k26 + 1) (by omega) (v2 2 - 1 - (k26 : Int)) 0 (by rw [show v2 2 - ((k26 + 1 : Nat) : Int) = v2 2 - 1 - (k26 : Int) by omega]; exact zDn_step hdn (by omega) (by omega) (Or.inl ⟨⟨c22, c39⟩, rfl⟩) (Or.inl ⟨⟨c22, c35⟩, rfl⟩)) (by omega) (by omega) _ _ _ Wd (lv_sub hl [4, 5, 1, 2, 0] rfl)
                  · skip
                    refine z_iconst C0 dX12_begins_69 ?_
                    refine z_goto C0 (tgt := 74) dX12_begins_70 (by decide) ?_
                    refine z_istore_n C0 hl [(3, .int (zI 1)), (5, .int (zI 1)), (0, .ref (ad 398)), (1, .int (zI (k2 : Int))), (2, .int (zI u2)), (4, .int (zI (v2 2 - 1 - (k26 : Int))))] (by decide) rfl dX12_begins_74 (fun ls hl => ?_)
                    refine z_iload C0 hl 1 rfl dX12_begins_75 ?_
                    refine z_if_eq C0 (tgt := 97) (zR_mk (by decide) (by decide)) dX12_begins_77 (by decide) (fun h => absurd h (by decide)) (fun _ => ?_)
                    refine z_aload_n C0 hl 2 rfl dX12_begins_80 ?_
                    refine z_iload C0 hl 5 rfl dX12_begins_81 ?_
                    refine z_iconst C0 dX12_begins_83 ?_
                    refine z_invVi (As := [.int (zI (v2 2 - 1 - (k26 : Int))), .int (zI 4)]) (rest := []) C0 Wd (ct_X12_of l g ad (zrow zM0 399 v2) zF0 (v2 2 - 1 - (k26 : Int)) (zR_mk (by omega) (by omega)) 4 (zR_mk (by decide) (by decide)) (by omega)) kv_X12_of zN398 (zE_9 zK398) rfl zk_1801 rfl hl.1 rfl (Nat.le_of_ble_eq_true rfl) (by decide) (by decide) dX12_begins_84 (fun r41 zMr41 zFr41 H locs hrr41 hp Wd => ?_)
                    obtain ⟨rfl, rfl, rfl⟩ := hp
                    refine z_top (show zI ((zrow zM0 399 v2) 399 (96 + 47 * (v2 2 - 1 - (k26 : Int)) + 4)) = zI (v2 (96 + 47 * (v2 2 - 1 - (k26 : Int)) + 4)) from rfl) ?_
                    replace hrr41 : zR (v2 (96 + 47 * (v2 2 - 1 - (k26 : Int)) + 4)) := hrr41
                    refine z_bipush C0 dX12_begins_87 (by decide) ?_
                    refine z_icmp_ne C0 (tgt := 97) hrr41 (zR_mk (by decide) (by decide)) dX12_begins_89 (by decide) (fun c43 => ?_) (fun c43 => ?_)
                    · skip
                      refine z_iload_n C0 hl 4 rfl dX12_begins_97 ?_
                      refine z_istore_n C0 hl [(2, .int (zI u2)), (3, .int (zI 1)), (5, .int (zI 1)), (0, .ref (ad 398)), (1, .int (zI (k2 : Int))), (4, .int (zI (v2 2 - 1 - (k26 : Int))))] (by decide) rfl dX12_begins_98 (fun ls hl => ?_)
                      refine z_iinc C0 hl 5 (t := (v2 2 - 1 - (k26 : Int))) (u := ((v2 2 - 1 - (k26 : Int)) - 1)) rfl (by omega) [(4, .int (zI ((v2 2 - 1 - (k26 : Int)) - 1))), (2, .int (zI u2)), (3, .int (zI 1)), (5, .int (zI 1)), (0, .ref (ad 398)), (1, .int (zI (k2 : Int)))] (by decide) rfl dX12_begins_99 (fun ls hl => ?_)
                      refine z_goto C0 (tgt := 26) dX12_begins_102 (by decide) ?_
                      rw [show (v2 2 - 1 - (k26 : Int)) - 1 = v2 2 - 1 - ((k26 + 1 : Nat) : Int) by omega] at hl
                      exact ih26 (k26 + 1) (by omega) u2 1 (by rw [show v2 2 - ((k26 + 1 : Nat) : Int) = v2 2 - 1 - (k26 : Int) by omega]; exact zDn_step hdn (by omega) (by omega) (Or.inr ⟨fun z => c43 z.2, rfl⟩) (Or.inr ⟨fun z => c35 z.2, (by omega)⟩)) (by omega) (by omega) _ _ _ Wd (lv_sub hl [4, 5, 1, 2, 0] rfl)
                    · skip
                      refine z_iload C0 hl 5 rfl dX12_begins_92 ?_
                      refine z_goto C0 (tgt := 98) dX12_begins_94 (by decide) ?_
                      refine z_istore_n C0 hl [(2, .int (zI (v2 2 - 1 - (k26 : Int)))), (3, .int (zI 1)), (5, .int (zI 1)), (0, .ref (ad 398)), (1, .int (zI (k2 : Int))), (4, .int (zI (v2 2 - 1 - (k26 : Int))))] (by decide) rfl dX12_begins_98 (fun ls hl => ?_)
                      refine z_iinc C0 hl 5 (t := (v2 2 - 1 - (k26 : Int))) (u := ((v2 2 - 1 - (k26 : Int)) - 1)) rfl (by omega) [(4, .int (zI ((v2 2 - 1 - (k26 : Int)) - 1))), (2, .int (zI (v2 2 - 1 - (k26 : Int)))), (3, .int (zI 1)), (5, .int (zI 1)), (0, .ref (ad 398)), (1, .int (zI (k2 : Int)))] (by decide) rfl dX12_begins_99 (fun ls hl => ?_)
                      refine z_goto C0 (tgt := 26) dX12_begins_102 (by decide) ?_
                      rw [show (v2 2 - 1 - (k26 : Int)) - 1 = v2 2 - 1 - ((k26 + 1 : Nat) : Int) by omega] at hl
                      exact ih26 (k26 + 1) (by omega) (v2 2 - 1 - (k26 : Int)) 1 (by rw [show v2 2 - ((k26 + 1 : Nat) : Int) = v2 2 - 1 - (k26 : Int) by omega]; exact zDn_step hdn (by omega) (by omega) (Or.inl ⟨⟨c22, c43⟩, rfl⟩) (Or.inr ⟨fun z => c35 z.2, (by omega)⟩)) (by omega) (by omega) _ _ _ Wd (lv_sub hl [4, 5, 1, 2, 0] rfl)
        rw [show v2 2 - 1 = v2 2 - 1 - ((0 : Nat) : Int) by omega] at hl
        exact lp26 ((v2 2)).toNat 0 (by omega) (-1) 1 (by rw [show v2 2 - ((0 : Nat) : Int) = v2 2 by omega]; exact zDn_0) (by omega) (by omega) _ _ _ Wd (lv_sub hl [3, 4, 2, 1, 0] rfl)
  exact lp2 ((zM0 399 0)).toNat 0 (by omega) (zM0 399) rfl _ _ _ Wd (lv_sub hl [1, 0] rfl)
