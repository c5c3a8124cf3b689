/-! the class: changes -/
theorem kv_X2_digChamber : zKV yX2_digChamber cX2_digChamber 1 (some (.object "DrumWarren$Fault")) "DrumWarren$Burrow" 0 := ⟨zk_414, zk_412, zk_413, zk_27, by decide, by decide, by decide +kernel⟩
set_option maxHeartbeats 4000000 in
set_option maxRecDepth 100000 in
theorem ct_X2_digChamber (l : Launch) (g : zG) (zX : va_W) (ad : Int → Nat) (zM0 zF0 : zMem) (b : Int) (hb : zB b) (V : Int → Int) (zt : Int) (hR : zRS b V zM0 zF0) (hI : zIV zt V) : zMt l yX2_digChamber cX2_digChamber 1 (some (.object "DrumWarren$Fault")) 1 0 0 g (0, 398, zX) ad [.ref (ad (b + 1))] zM0 zF0 (zPe g (fun r M' F' => zFt [4] (zdAC V).1 r ∧ zRS b (zdAC V).2.2 M' F' ∧ zOut b zM0 zF0 M' F')) := by
  refine zMt.of "DrumWarren$Burrow" rfl (by decide +kernel) (Nat.le_of_ble_eq_true rfl) (fun {p e s m args below meth c ls} C0 Wd hl hret hlk hin => ?_)
  have hl : lv_has ls 1 [(0, .ref (ad (b + 1)))] := hl
  have h0b := hI.1
  have h1b := hI.2.1
  have h2b := hI.2.2.1
  have hTb := hI.2.2.2.2.1
  have hbb := zB_bd hb
  refine z_aload_n C0 hl 0 rfl dX2_digChamber_0 ?_
  refine zg_1_0 C0 Wd (znB1 hb) (zkB1 hb) zk_93 dX2_digChamber_1 ?_
  obtain ⟨he2, hz1⟩ : (zM0 (b + 1) 0) = (V 0) ∧ zR (V 0) := (fun q => ⟨q, q ▸ Wd.rm _ _⟩) hR.c0
  refine z_top (congrArg zI he2) ?_
  clear he2
  refine z_bipush C0 dX2_digChamber_4 (by decide) ?_
  refine z_icmp_lt C0 (tgt := 13) hz1 (zR_mk (by decide) (by decide)) dX2_digChamber_6 (by decide) (fun c3 => ?_) (fun c3 => ?_)
  · skip
    refine z_aload_n C0 hl 0 rfl dX2_digChamber_13 ?_
    refine z_dup C0 rfl dX2_digChamber_14 ?_
    refine zg_1_0 C0 Wd (znB1 hb) (zkB1 hb) zk_93 dX2_digChamber_15 ?_
    obtain ⟨he5, hz4⟩ : (zM0 (b + 1) 0) = (V 0) ∧ zR (V 0) := (fun q => ⟨q, q ▸ Wd.rm _ _⟩) hR.c0
    refine z_top (congrArg zI he5) ?_
    clear he5
    refine z_iconst C0 dX2_digChamber_18 ?_
    refine z_iadd C0 dX2_digChamber_19 ?_
    refine zp_1_0 C0 Wd (znB1 hb) (zkB1 hb) (by have q0 := hz4.1; have p0 := hz4.2; exact zR_mk (by omega) (by omega)) zk_93 dX2_digChamber_20 (fun H locs Wd => ?_)
    refine z_gets C0 Wd (zc_F0 C0) zk_417 dX2_digChamber_23 ?_
    exact z_eret C0 Wd hret hlk (by have e : (zdAC V) = ((0, V 0 + 1 - 1, zup V 0 (V 0 + 1)) : zO) := (by unfold zdAC; first | (rw [if_pos (by first | assumption | omega)]; done) | (rw [if_neg (by first | assumption | omega), if_pos (by first | assumption | omega)]; done) | (rw [if_neg (by first | assumption | omega)]; done) | (rw [if_neg (by first | assumption | omega), if_neg (by first | assumption | omega), if_pos (by first | assumption | omega)]; done) | (rw [if_neg (by first | assumption | omega), if_neg (by first | assumption | omega)]; done) | (rw [if_neg (by first | assumption | omega), if_neg (by first | assumption | omega), if_neg (by first | assumption | omega)]; done)); rw [e]; exact ⟨rfl, zR_dig hR hI (by omega), (zOut_u zOut_rf (by omega))⟩) dX2_digChamber_26
  · skip
    refine z_gets C0 Wd (zc_F4 C0) zk_415 dX2_digChamber_9 ?_
    exact z_eret C0 Wd hret hlk (by have e : (zdAC V) = ((1, 0, V) : zO) := (by unfold zdAC; first | (rw [if_pos (by first | assumption | omega)]; done) | (rw [if_neg (by first | assumption | omega), if_pos (by first | assumption | omega)]; done) | (rw [if_neg (by first | assumption | omega)]; done) | (rw [if_neg (by first | assumption | omega), if_neg (by first | assumption | omega), if_pos (by first | assumption | omega)]; done) | (rw [if_neg (by first | assumption | omega), if_neg (by first | assumption | omega)]; done) | (rw [if_neg (by first | assumption | omega), if_neg (by first | assumption | omega), if_neg (by first | assumption | omega)]; done)); rw [e]; exact ⟨rfl, hR, zOut_rf⟩) dX2_digChamber_12
theorem kv_X2_digTunnel : zKV yX2_digTunnel cX2_digTunnel 4 (some (.object "DrumWarren$Fault")) "DrumWarren$Burrow" 3 := ⟨zk_589, zk_587, zk_588, zk_27, by decide, by decide, by decide +kernel⟩
set_option maxHeartbeats 4000000 in
set_option maxRecDepth 100000 in
theorem ct_X2_digTunnel (l : Launch) (g : zG) (zX : va_W) (ad : Int → Nat) (zM0 zF0 : zMem) (b : Int) (hb : zB b) (V : Int → Int) (zt : Int) (x0 : Int) (hx0 : zR x0) (x1 : Int) (hx1 : zR x1) (x2 : Int) (hx2 : zR x2) (hR : zRS b V zM0 zF0) (hI : zIV zt V) (hN : zTn V) : zMt l yX2_digTunnel cX2_digTunnel 4 (some (.object "DrumWarren$Fault")) 3 0 0 g (0, 398, zX) ad [.ref (ad (b + 1)), .int (zI x0), .int (zI x1), .int (zI x2)] zM0 zF0 (zPe g (fun r M' F' => zFt [1, 3, 4] (zdAT x0 x1 x2 V).1 r ∧ zRS b (zdAT x0 x1 x2 V).2.2 M' F' ∧ zOut b zM0 zF0 M' F')) := by
  refine zMt.of "DrumWarren$Burrow" rfl (by decide +kernel) (Nat.le_of_ble_eq_true rfl) (fun {p e s m args below meth c ls} C0 Wd hl hret hlk hin => ?_)
  have hl : lv_has ls 4 [(0, .ref (ad (b + 1))), (1, .int (zI x0)), (2, .int (zI x1)), (3, .int (zI x2))] := hl
  have h0b := hI.1
  have h1b := hI.2.1
  have h2b := hI.2.2.1
  have hTb := hI.2.2.2.2.1
  have hbb := zB_bd hb
  refine z_aload_n C0 hl 0 rfl dX2_digTunnel_0 ?_
  refine z_iload_n C0 hl 1 rfl dX2_digTunnel_1 ?_
  refine z_invVi (As := [.int (zI x0)]) (rest := []) C0 Wd (ct_X2_has l g zX ad zM0 zF0 b hb V x0 hx0 hR.B) kv_X2_has (znB1 hb) (zE_1 (zkB1 hb)) rfl zk_590 rfl hl.1 rfl (Nat.le_of_ble_eq_true rfl) (by decide) (by decide) dX2_digTunnel_2 (fun r1 zMr1 zFr1 H locs hrr1 hp Wd => ?_)
  obtain ⟨rfl, rfl, rfl⟩ := hp
  refine z_if_eq_b C0 (tgt := 16) dX2_digTunnel_5 (by decide) (fun c3 => ?_) (fun c3 => ?_)
  · skip
    refine z_gets C0 Wd (zc_F1 C0) zk_594 dX2_digTunnel_16 ?_
    exact z_eret C0 Wd hret hlk (by have e : (zdAT x0 x1 x2 V) = ((1, 0, V) : zO) := (by unfold zdAT; first | (rw [if_pos (by first | assumption | omega)]; done) | (rw [if_neg (by first | assumption | omega), if_pos (by first | assumption | omega)]; done) | (rw [if_neg (by first | assumption | omega)]; done) | (rw [if_neg (by first | assumption | omega), if_neg (by first | assumption | omega), if_pos (by first | assumption | omega)]; done) | (rw [if_neg (by first | assumption | omega), if_neg (by first | assumption | omega)]; done) | (rw [if_neg (by first | assumption | omega), if_neg (by first | assumption | omega), if_neg (by first | assumption | omega)]; done)); rw [e]; exact ⟨rfl, hR, zOut_rf⟩) dX2_digTunnel_19
  · skip
    refine z_aload_n C0 hl 0 rfl dX2_digTunnel_8 ?_
    refine z_iload_n C0 hl 2 rfl dX2_digTunnel_9 ?_
    refine z_invVi (As := [.int (zI x1)]) (rest := []) C0 Wd (ct_X2_has l g zX ad zM0 zF0 b hb V x1 hx1 hR.B) kv_X2_has (znB1 hb) (zE_1 (zkB1 hb)) rfl zk_590 rfl hl.1 rfl (Nat.le_of_ble_eq_true rfl) (by decide) (by decide) dX2_digTunnel_10 (fun r4 zMr4 zFr4 H locs hrr4 hp Wd => ?_)
    obtain ⟨rfl, rfl, rfl⟩ := hp
    refine z_if_ne_b C0 (tgt := 20) dX2_digTunnel_13 (by decide) (fun c6 => ?_) (fun c6 => ?_)
    · skip
      refine z_iload_n C0 hl 1 rfl dX2_digTunnel_20 ?_
      refine z_iload_n C0 hl 2 rfl dX2_digTunnel_21 ?_
      refine z_icmp_eq C0 (tgt := 36) hx0 hx1 dX2_digTunnel_22 (by decide) (fun c7 => ?_) (fun c7 => ?_)
      · skip
        refine z_gets C0 Wd (zc_F3 C0) zk_596 dX2_digTunnel_36 ?_
        exact z_eret C0 Wd hret hlk (by have e : (zdAT x0 x1 x2 V) = ((2, 0, V) : zO) := (by unfold zdAT; first | (rw [if_pos (by first | assumption | omega)]; done) | (rw [if_neg (by first | assumption | omega), if_pos (by first | assumption | omega)]; done) | (rw [if_neg (by first | assumption | omega)]; done) | (rw [if_neg (by first | assumption | omega), if_neg (by first | assumption | omega), if_pos (by first | assumption | omega)]; done) | (rw [if_neg (by first | assumption | omega), if_neg (by first | assumption | omega)]; done) | (rw [if_neg (by first | assumption | omega), if_neg (by first | assumption | omega), if_neg (by first | assumption | omega)]; done)); rw [e]; exact ⟨rfl, hR, zOut_rf⟩) dX2_digTunnel_39
      · skip
        refine z_iload_n C0 hl 3 rfl dX2_digTunnel_25 ?_
        refine z_iconst C0 dX2_digTunnel_26 ?_
        refine z_icmp_lt C0 (tgt := 36) hx2 (zR_mk (by decide) (by decide)) dX2_digTunnel_27 (by decide) (fun c8 => ?_) (fun c8 => ?_)
        · skip
          refine z_gets C0 Wd (zc_F3 C0) zk_596 dX2_digTunnel_36 ?_
          exact z_eret C0 Wd hret hlk (by have e : (zdAT x0 x1 x2 V) = ((2, 0, V) : zO) := (by unfold zdAT; first | (rw [if_pos (by first | assumption | omega)]; done) | (rw [if_neg (by first | assumption | omega), if_pos (by first | assumption | omega)]; done) | (rw [if_neg (by first | assumption | omega)]; done) | (rw [if_neg (by first | assumption | omega), if_neg (by first | assumption | omega), if_pos (by first | assumption | omega)]; done) | (rw [if_neg (by first | assumption | omega), if_neg (by first | assumption | omega)]; done) | (rw [if_neg (by first | assumption | omega), if_neg (by first | assumption | omega), if_neg (by first | assumption | omega)]; done)); rw [e]; exact ⟨rfl, hR, zOut_rf⟩) dX2_digTunnel_39
        · skip
          refine z_iload_n C0 hl 3 rfl dX2_digTunnel_30 ?_
          refine z_bipush C0 dX2_digTunnel_31 (by decide) ?_
          refine z_icmp_le C0 (tgt := 40) hx2 (zR_mk (by decide) (by decide)) dX2_digTunnel_33 (by decide) (fun c9 => ?_) (fun c9 => ?_)
          · skip
            refine z_aload_n C0 hl 0 rfl dX2_digTunnel_40 ?_
            refine z_iload_n C0 hl 1 rfl dX2_digTunnel_41 ?_
            refine z_iload_n C0 hl 2 rfl dX2_digTunnel_42 ?_
            refine z_invVi (As := [.int (zI x0), .int (zI x1)]) (rest := []) C0 Wd (ct_X2_delayOfTunnel l g zX ad zM0 zF0 b hb V x0 hx0 x1 hx1 hR.B (by omega)) kv_X2_delayOfTunnel (znB1 hb) (zE_1 (zkB1 hb)) rfl zk_598 rfl hl.1 rfl (Nat.le_of_ble_eq_true rfl) (by decide) (by decide) dX2_digTunnel_43 (fun r10 zMr10 zFr10 H locs hrr10 hp Wd => ?_)
            rcases hp with ⟨hr10_0_0, rfl, rfl, rfl⟩ | ⟨hr10_1_0, rfl, rfl, rfl⟩
            · skip
              have hq0 := hTb (8 + 8 * x0 + x1) (by omega) (by omega)
              refine z_if_eq C0 (tgt := 53) hrr10 dX2_digTunnel_46 (by decide) (fun c12 => ?_) (fun c12 => ?_)
              · skip
                refine z_aload_n C0 hl 0 rfl dX2_digTunnel_53 ?_
                refine z_iload_n C0 hl 1 rfl dX2_digTunnel_54 ?_
                refine z_iload_n C0 hl 2 rfl dX2_digTunnel_55 ?_
                refine z_iload_n C0 hl 3 rfl dX2_digTunnel_56 ?_
                refine z_invVv (As := [.int (zI x0), .int (zI x1), .int (zI x2)]) (rest := []) C0 Wd (ct_X2_join l g zX ad zM0 zF0 b hb V x0 hx0 x1 hx1 x2 hx2 hR.B (by omega) hTb (by omega) (by omega) (by omega)) kv_X2_join (znB1 hb) (zE_1 (zkB1 hb)) rfl zk_602 rfl hl.1 rfl (Nat.le_of_ble_eq_true rfl) (by decide) (by decide) dX2_digTunnel_57 (fun zMr13 zFr13 H locs hp Wd => ?_)
                rcases hp with ⟨w_r13, hr13_0_0, rfl, rfl⟩
                · skip
                  have hTu := zTu_bd V
                  refine z_aload_n C0 hl 0 rfl dX2_digTunnel_60 ?_
                  refine z_dup C0 rfl dX2_digTunnel_61 ?_
                  refine zg_1_1 C0 Wd (znB1 hb) (zkB1 hb) zk_96 dX2_digTunnel_62 ?_
                  obtain ⟨he16, hz15⟩ : ((zrow (zu (zu zM0 (b + 2) ((x0 * 8) + x1) x2) (b + 2) ((x1 * 8) + x0) x2) (b + 3) w_r13) (b + 1) 1) = (zTu V) ∧ zR (zTu V) := (fun q => ⟨q, q ▸ Wd.rm _ _⟩) ((congrFun (zrow_ne (by omega)) _).trans ((zu_ne (by omega)).trans ((zu_ne (by omega)).trans hR.c1)))
                  refine z_top (congrArg zI he16) ?_
                  clear he16
                  refine z_iconst C0 dX2_digTunnel_65 ?_
                  refine z_iadd C0 dX2_digTunnel_66 ?_
                  refine zp_1_1 C0 Wd (znB1 hb) (zkB1 hb) (by have q0 := hz15.1; have p0 := hz15.2; exact zR_mk (by omega) (by omega)) zk_96 dX2_digTunnel_67 (fun H locs Wd => ?_)
                  refine z_gets C0 Wd (zc_F0 C0) zk_417 dX2_digTunnel_70 ?_
                  exact z_eret C0 Wd hret hlk (by have e : (zdAT x0 x1 x2 V) = ((0, zTu (zup (zup V (8 + 8 * x0 + x1) x2) (8 + 8 * x1 + x0) x2), (zup (zup V (8 + 8 * x0 + x1) x2) (8 + 8 * x1 + x0) x2)) : zO) := (by unfold zdAT; first | (rw [if_pos (by first | assumption | omega)]; done) | (rw [if_neg (by first | assumption | omega), if_pos (by first | assumption | omega)]; done) | (rw [if_neg (by first | assumption | omega)]; done) | (rw [if_neg (by first | assumption | omega), if_neg (by first | assumption | omega), if_pos (by first | assumption | omega)]; done) | (rw [if_neg (by first | assumption | omega), if_neg (by first | assumption | omega)]; done) | (rw [if_neg (by first | assumption | omega), if_neg (by first | assumption | omega), if_neg (by first | assumption | omega)]; done)); rw [e]; exact ⟨rfl, zR_join hR hI (a := x0) (c := x1) (d := x2) ⟨by omega, by omega⟩ ⟨by omega, by omega⟩ hr13_0_0 (by rw [zTu_2 ⟨by omega, by omega⟩ ⟨by omega, by omega⟩ (by omega) (hN.1 x0 x1 ⟨by omega, by omega⟩ ⟨by omega, by omega⟩), zb_t (by omega), zb_f (by omega)]; omega), (zOut_u (zOut_w (zOut_u (zOut_u zOut_rf (by omega)) (by omega)) (by omega)) (by omega))⟩) dX2_digTunnel_73
              · skip
                refine z_gets C0 Wd (zc_F4 C0) zk_415 dX2_digTunnel_49 ?_
                exact z_eret C0 Wd hret hlk (by have e : (zdAT x0 x1 x2 V) = ((3, 0, V) : zO) := (by unfold zdAT; first | (rw [if_pos (by first | assumption | omega)]; done) | (rw [if_neg (by first | assumption | omega), if_pos (by first | assumption | omega)]; done) | (rw [if_neg (by first | assumption | omega)]; done) | (rw [if_neg (by first | assumption | omega), if_neg (by first | assumption | omega), if_pos (by first | assumption | omega)]; done) | (rw [if_neg (by first | assumption | omega), if_neg (by first | assumption | omega)]; done) | (rw [if_neg (by first | assumption | omega), if_neg (by first | assumption | omega), if_neg (by first | assumption | omega)]; done)); rw [e]; exact ⟨rfl, hR, zOut_rf⟩) dX2_digTunnel_52
            · skip
              exfalso; omega
          · skip
            refine z_gets C0 Wd (zc_F3 C0) zk_596 dX2_digTunnel_36 ?_
            exact z_eret C0 Wd hret hlk (by have e : (zdAT x0 x1 x2 V) = ((2, 0, V) : zO) := (by unfold zdAT; first | (rw [if_pos (by first | assumption | omega)]; done) | (rw [if_neg (by first | assumption | omega), if_pos (by first | assumption | omega)]; done) | (rw [if_neg (by first | assumption | omega)]; done) | (rw [if_neg (by first | assumption | omega), if_neg (by first | assumption | omega), if_pos (by first | assumption | omega)]; done) | (rw [if_neg (by first | assumption | omega), if_neg (by first | assumption | omega)]; done) | (rw [if_neg (by first | assumption | omega), if_neg (by first | assumption | omega), if_neg (by first | assumption | omega)]; done)); rw [e]; exact ⟨rfl, hR, zOut_rf⟩) dX2_digTunnel_39
    · skip
      refine z_gets C0 Wd (zc_F1 C0) zk_594 dX2_digTunnel_16 ?_
      exact z_eret C0 Wd hret hlk (by have e : (zdAT x0 x1 x2 V) = ((1, 0, V) : zO) := (by unfold zdAT; first | (rw [if_pos (by first | assumption | omega)]; done) | (rw [if_neg (by first | assumption | omega), if_pos (by first | assumption | omega)]; done) | (rw [if_neg (by first | assumption | omega)]; done) | (rw [if_neg (by first | assumption | omega), if_neg (by first | assumption | omega), if_pos (by first | assumption | omega)]; done) | (rw [if_neg (by first | assumption | omega), if_neg (by first | assumption | omega)]; done) | (rw [if_neg (by first | assumption | omega), if_neg (by first | assumption | omega), if_neg (by first | assumption | omega)]; done)); rw [e]; exact ⟨rfl, hR, zOut_rf⟩) dX2_digTunnel_19
theorem kv_X2_fillTunnel : zKV yX2_fillTunnel cX2_fillTunnel 3 (some (.object "DrumWarren$Fault")) "DrumWarren$Burrow" 2 := ⟨zk_1506, zk_1504, zk_1505, zk_27, by decide, by decide, by decide +kernel⟩
set_option maxHeartbeats 4000000 in
set_option maxRecDepth 100000 in
theorem ct_X2_fillTunnel (l : Launch) (g : zG) (zX : va_W) (ad : Int → Nat) (zM0 zF0 : zMem) (b : Int) (hb : zB b) (V : Int → Int) (zt : Int) (x0 : Int) (hx0 : zR x0) (x1 : Int) (hx1 : zR x1) (hR : zRS b V zM0 zF0) (hI : zIV zt V) (hN : zTn V) : zMt l yX2_fillTunnel cX2_fillTunnel 3 (some (.object "DrumWarren$Fault")) 3 0 0 g (0, 398, zX) ad [.ref (ad (b + 1)), .int (zI x0), .int (zI x1)] zM0 zF0 (zPe g (fun r M' F' => zFt [1, 2] (zdRT x0 x1 V).1 r ∧ zRS b (zdRT x0 x1 V).2.2 M' F' ∧ zOut b zM0 zF0 M' F')) := by
  refine zMt.of "DrumWarren$Burrow" rfl (by decide +kernel) (Nat.le_of_ble_eq_true rfl) (fun {p e s m args below meth c ls} C0 Wd hl hret hlk hin => ?_)
  have hl : lv_has ls 3 [(0, .ref (ad (b + 1))), (1, .int (zI x0)), (2, .int (zI x1))] := hl
  have h0b := hI.1
  have h1b := hI.2.1
  have h2b := hI.2.2.1
  have hTb := hI.2.2.2.2.1
  have hbb := zB_bd hb
  refine z_aload_n C0 hl 0 rfl dX2_fillTunnel_0 ?_
  refine z_iload_n C0 hl 1 rfl dX2_fillTunnel_1 ?_
  refine z_invVi (As := [.int (zI x0)]) (rest := []) C0 Wd (ct_X2_has l g zX ad zM0 zF0 b hb V x0 hx0 hR.B) kv_X2_has (znB1 hb) (zE_1 (zkB1 hb)) rfl zk_590 rfl hl.1 rfl (Nat.le_of_ble_eq_true rfl) (by decide) (by decide) dX2_fillTunnel_2 (fun r1 zMr1 zFr1 H locs hrr1 hp Wd => ?_)
  obtain ⟨rfl, rfl, rfl⟩ := hp
  refine z_if_eq_b C0 (tgt := 16) dX2_fillTunnel_5 (by decide) (fun c3 => ?_) (fun c3 => ?_)
  · skip
    refine z_gets C0 Wd (zc_F1 C0) zk_594 dX2_fillTunnel_16 ?_
    exact z_eret C0 Wd hret hlk (by have e : (zdRT x0 x1 V) = ((1, 0, V) : zO) := (by unfold zdRT; first | (rw [if_pos (by first | assumption | omega)]; done) | (rw [if_neg (by first | assumption | omega), if_pos (by first | assumption | omega)]; done) | (rw [if_neg (by first | assumption | omega)]; done) | (rw [if_neg (by first | assumption | omega), if_neg (by first | assumption | omega), if_pos (by first | assumption | omega)]; done) | (rw [if_neg (by first | assumption | omega), if_neg (by first | assumption | omega)]; done) | (rw [if_neg (by first | assumption | omega), if_neg (by first | assumption | omega), if_neg (by first | assumption | omega)]; done)); rw [e]; exact ⟨rfl, hR, zOut_rf⟩) dX2_fillTunnel_19
  · skip
    refine z_aload_n C0 hl 0 rfl dX2_fillTunnel_8 ?_
    refine z_iload_n C0 hl 2 rfl dX2_fillTunnel_9 ?_
    refine z_invVi (As := [.int (zI x1)]) (rest := []) C0 Wd (ct_X2_has l g zX ad zM0 zF0 b hb V x1 hx1 hR.B) kv_X2_has (znB1 hb) (zE_1 (zkB1 hb)) rfl zk_590 rfl hl.1 rfl (Nat.le_of_ble_eq_true rfl) (by decide) (by decide) dX2_fillTunnel_10 (fun r4 zMr4 zFr4 H locs hrr4 hp Wd => ?_)
    obtain ⟨rfl, rfl, rfl⟩ := hp
    refine z_if_ne_b C0 (tgt := 20) dX2_fillTunnel_13 (by decide) (fun c6 => ?_) (fun c6 => ?_)
    · skip
      refine z_aload_n C0 hl 0 rfl dX2_fillTunnel_20 ?_
      refine z_iload_n C0 hl 1 rfl dX2_fillTunnel_21 ?_
      refine z_iload_n C0 hl 2 rfl dX2_fillTunnel_22 ?_
      refine z_invVi (As := [.int (zI x0), .int (zI x1)]) (rest := []) C0 Wd (ct_X2_delayOfTunnel l g zX ad zM0 zF0 b hb V x0 hx0 x1 hx1 hR.B (by omega)) kv_X2_delayOfTunnel (znB1 hb) (zE_1 (zkB1 hb)) rfl zk_598 rfl hl.1 rfl (Nat.le_of_ble_eq_true rfl) (by decide) (by decide) dX2_fillTunnel_23 (fun r7 zMr7 zFr7 H locs hrr7 hp Wd => ?_)
      rcases hp with ⟨hr7_0_0, rfl, rfl, rfl⟩ | ⟨hr7_1_0, rfl, rfl, rfl⟩
      · skip
        have hq0 := hTb (8 + 8 * x0 + x1) (by omega) (by omega)
        refine z_if_ne C0 (tgt := 33) hrr7 dX2_fillTunnel_26 (by decide) (fun c9 => ?_) (fun c9 => ?_)
        · skip
          refine z_aload_n C0 hl 0 rfl dX2_fillTunnel_33 ?_
          refine z_iload_n C0 hl 1 rfl dX2_fillTunnel_34 ?_
          refine z_iload_n C0 hl 2 rfl dX2_fillTunnel_35 ?_
          refine z_iconst C0 dX2_fillTunnel_36 ?_
          refine z_invVv (As := [.int (zI x0), .int (zI x1), .int (zI 0)]) (rest := []) C0 Wd (ct_X2_join l g zX ad zM0 zF0 b hb V x0 hx0 x1 hx1 0 (zR_mk (by decide) (by decide)) hR.B (by omega) hTb (by omega) (by omega) (by omega)) kv_X2_join (znB1 hb) (zE_1 (zkB1 hb)) rfl zk_602 rfl hl.1 rfl (Nat.le_of_ble_eq_true rfl) (by decide) (by decide) dX2_fillTunnel_37 (fun zMr10 zFr10 H locs hp Wd => ?_)
          rcases hp with ⟨w_r10, hr10_0_0, rfl, rfl⟩
          · skip
            have hTu := zTu_bd V
            refine z_aload_n C0 hl 0 rfl dX2_fillTunnel_40 ?_
            refine z_dup C0 rfl dX2_fillTunnel_41 ?_
            refine zg_1_1 C0 Wd (znB1 hb) (zkB1 hb) zk_96 dX2_fillTunnel_42 ?_
            obtain ⟨he13, hz12⟩ : ((zrow (zu (zu zM0 (b + 2) ((x0 * 8) + x1) 0) (b + 2) ((x1 * 8) + x0) 0) (b + 3) w_r10) (b + 1) 1) = (zTu V) ∧ zR (zTu V) := (fun q => ⟨q, q ▸ Wd.rm _ _⟩) ((congrFun (zrow_ne (by omega)) _).trans ((zu_ne (by omega)).trans ((zu_ne (by omega)).trans hR.c1)))
            refine z_top (congrArg zI he13) ?_
            clear he13
            refine z_iconst C0 dX2_fillTunnel_45 ?_
            refine z_isub C0 dX2_fillTunnel_46 ?_
            refine zp_1_1 C0 Wd (znB1 hb) (zkB1 hb) (by have q0 := hz12.1; have p0 := hz12.2; exact zR_mk (by omega) (by omega)) zk_96 dX2_fillTunnel_47 (fun H locs Wd => ?_)
            refine z_gets C0 Wd (zc_F0 C0) zk_417 dX2_fillTunnel_50 ?_
            exact z_eret C0 Wd hret hlk (by have e : (zdRT x0 x1 V) = ((0, V (8 + 8 * x0 + x1), (zup (zup V (8 + 8 * x0 + x1) 0) (8 + 8 * x1 + x0) 0)) : zO) := (by unfold zdRT; first | (rw [if_pos (by first | assumption | omega)]; done) | (rw [if_neg (by first | assumption | omega), if_pos (by first | assumption | omega)]; done) | (rw [if_neg (by first | assumption | omega)]; done) | (rw [if_neg (by first | assumption | omega), if_neg (by first | assumption | omega), if_pos (by first | assumption | omega)]; done) | (rw [if_neg (by first | assumption | omega), if_neg (by first | assumption | omega)]; done) | (rw [if_neg (by first | assumption | omega), if_neg (by first | assumption | omega), if_neg (by first | assumption | omega)]; done)); rw [e]; exact ⟨rfl, zR_join hR hI (a := x0) (c := x1) (d := 0) ⟨by omega, by omega⟩ ⟨by omega, by omega⟩ hr10_0_0 (by rw [zTu_2 ⟨by omega, by omega⟩ ⟨by omega, by omega⟩ (fun q => by have := hN.2 x0 x1 ⟨by omega, by omega⟩ ⟨by omega, by omega⟩ (Or.inr (Or.inr q)); omega) (hN.1 x0 x1 ⟨by omega, by omega⟩ ⟨by omega, by omega⟩), zb_f (by omega), zb_t (by omega)]; omega), (zOut_u (zOut_w (zOut_u (zOut_u zOut_rf (by omega)) (by omega)) (by omega)) (by omega))⟩) dX2_fillTunnel_53
        · skip
          refine z_gets C0 Wd (zc_F2 C0) zk_1507 dX2_fillTunnel_29 ?_
          exact z_eret C0 Wd hret hlk (by have e : (zdRT x0 x1 V) = ((2, 0, V) : zO) := (by unfold zdRT; first | (rw [if_pos (by first | assumption | omega)]; done) | (rw [if_neg (by first | assumption | omega), if_pos (by first | assumption | omega)]; done) | (rw [if_neg (by first | assumption | omega)]; done) | (rw [if_neg (by first | assumption | omega), if_neg (by first | assumption | omega), if_pos (by first | assumption | omega)]; done) | (rw [if_neg (by first | assumption | omega), if_neg (by first | assumption | omega)]; done) | (rw [if_neg (by first | assumption | omega), if_neg (by first | assumption | omega), if_neg (by first | assumption | omega)]; done)); rw [e]; exact ⟨rfl, hR, zOut_rf⟩) dX2_fillTunnel_32
      · skip
        exfalso; omega
    · skip
      refine z_gets C0 Wd (zc_F1 C0) zk_594 dX2_fillTunnel_16 ?_
      exact z_eret C0 Wd hret hlk (by have e : (zdRT x0 x1 V) = ((1, 0, V) : zO) := (by unfold zdRT; first | (rw [if_pos (by first | assumption | omega)]; done) | (rw [if_neg (by first | assumption | omega), if_pos (by first | assumption | omega)]; done) | (rw [if_neg (by first | assumption | omega)]; done) | (rw [if_neg (by first | assumption | omega), if_neg (by first | assumption | omega), if_pos (by first | assumption | omega)]; done) | (rw [if_neg (by first | assumption | omega), if_neg (by first | assumption | omega)]; done) | (rw [if_neg (by first | assumption | omega), if_neg (by first | assumption | omega), if_neg (by first | assumption | omega)]; done)); rw [e]; exact ⟨rfl, hR, zOut_rf⟩) dX2_fillTunnel_19
theorem kv_X10_settle : zKV yX10_settle cX10_settle 3 (some (.object "DrumWarren$Fault")) "DrumWarren$State" 1 := ⟨zk_616, zk_614, zk_615, zk_26, by decide, by decide, by decide +kernel⟩
set_option maxHeartbeats 4000000 in
set_option maxRecDepth 100000 in
theorem ct_X10_settle (l : Launch) (g : zG) (zX : va_W) (ad : Int → Nat) (zM0 zF0 : zMem) (b : Int) (hb : zB b) (V : Int → Int) (zt : Int) (x0 : Int) (hx0 : zR x0) (hR : zRS b V zM0 zF0) (hI : zIV zt V) : zMt l yX10_settle cX10_settle 3 (some (.object "DrumWarren$Fault")) 1 0 0 g (0, 398, zX) ad [.ref (ad b), .int (zI x0)] zM0 zF0 (zPe g (fun r M' F' => zFt [1, 4] (zdAH x0 V).1 r ∧ zRS b (zdAH x0 V).2.2 M' F' ∧ zOut b zM0 zF0 M' F')) := by
  refine zMt.of "DrumWarren$State" rfl (by decide +kernel) (Nat.le_of_ble_eq_true rfl) (fun {p e s m args below meth c ls} C0 Wd hl hret hlk hin => ?_)
  have hl : lv_has ls 3 [(0, .ref (ad b)), (1, .int (zI x0))] := hl
  have h0b := hI.1
  have h1b := hI.2.1
  have h2b := hI.2.2.1
  have hTb := hI.2.2.2.2.1
  have hbb := zB_bd hb
  refine z_aload_n C0 hl 0 rfl dX10_settle_0 ?_
  refine zg_7_0 C0 Wd (znB0 hb) (zkB0 hb) zk_193 dX10_settle_1 ?_
  refine z_iload_n C0 hl 1 rfl dX10_settle_4 ?_
  refine z_invVi (As := [.int (zI x0)]) (rest := []) C0 Wd (ct_X2_has l g zX ad zM0 zF0 b hb V x0 hx0 hR.B) kv_X2_has (znB1 hb) (zE_1 (zkB1 hb)) rfl zk_617 rfl hl.1 rfl (Nat.le_of_ble_eq_true rfl) (by decide) (by decide) dX10_settle_5 (fun r1 zMr1 zFr1 H locs hrr1 hp Wd => ?_)
  obtain ⟨rfl, rfl, rfl⟩ := hp
  refine z_if_ne_b C0 (tgt := 15) dX10_settle_8 (by decide) (fun c3 => ?_) (fun c3 => ?_)
  · skip
    refine z_aload_n C0 hl 0 rfl dX10_settle_15 ?_
    refine zg_7_2 C0 Wd (znB0 hb) (zkB0 hb) zk_196 dX10_settle_16 ?_
    obtain ⟨he5, hz4⟩ : (zM0 b 2) = (V 1) ∧ zR (V 1) := (fun q => ⟨q, q ▸ Wd.rm _ _⟩) hR.c2
    refine z_top (congrArg zI he5) ?_
    clear he5
    refine z_bipush C0 dX10_settle_19 (by decide) ?_
    refine z_icmp_lt C0 (tgt := 28) hz4 (zR_mk (by decide) (by decide)) dX10_settle_21 (by decide) (fun c6 => ?_) (fun c6 => ?_)
    · skip
      refine z_aload_n C0 hl 0 rfl dX10_settle_28 ?_
      refine zg_7_1 C0 Wd (znB0 hb) (zkB0 hb) zk_195 dX10_settle_29 ?_
      refine z_aload_n C0 hl 0 rfl dX10_settle_32 ?_
      refine zg_7_2 C0 Wd (znB0 hb) (zkB0 hb) zk_196 dX10_settle_33 ?_
      obtain ⟨he8, hz7⟩ : (zM0 b 2) = (V 1) ∧ zR (V 1) := (fun q => ⟨q, q ▸ Wd.rm _ _⟩) hR.c2
      refine z_top (congrArg zI he8) ?_
      clear he8
      refine z_aald15 C0 Wd (znB5 hb) (zkB5 hb) (zlB5 hb) (by omega) (by omega) (by decide) dX10_settle_36 ?_
      refine z_rf (show ((b + 5) + 4 + (V 1)) = (b + 9 + (V 1)) by omega) ?_
      refine z_astore_n C0 hl [(2, .ref (ad (b + 9 + (V 1)))), (0, .ref (ad b)), (1, .int (zI x0))] (by decide) rfl dX10_settle_37 (fun ls hl => ?_)
      refine z_aload_n C0 hl 0 rfl dX10_settle_38 ?_
      refine z_iload_n C0 hl 2 rfl dX10_settle_39 ?_
      refine zp_4_0 C0 Wd (znBh hb (by omega) (by omega)) (zkBh hb (by omega) (by omega)) hx0 zk_133 dX10_settle_40 (fun H locs Wd => ?_)
      refine z_aload_n C0 hl 0 rfl dX10_settle_43 ?_
      refine z_iconst C0 dX10_settle_44 ?_
      refine zp_4_1 C0 Wd (znBh hb (by omega) (by omega)) (zkBh hb (by omega) (by omega)) (by omega) zk_135 dX10_settle_45 (fun H locs Wd => ?_)
      refine z_aload_n C0 hl 0 rfl dX10_settle_48 ?_
      refine z_iconst C0 dX10_settle_49 ?_
      refine zp_4_2 C0 Wd (znBh hb (by omega) (by omega)) (zkBh hb (by omega) (by omega)) (zR_mk (by decide) (by decide)) zk_137 dX10_settle_50 (fun H locs Wd => ?_)
      refine z_aload_n C0 hl 1 rfl dX10_settle_53 ?_
      refine z_dup C0 rfl dX10_settle_54 ?_
      refine zg_7_2 C0 Wd (znB0 hb) (zkB0 hb) zk_196 dX10_settle_55 ?_
      obtain ⟨he10, hz9⟩ : ((zu (zu (zu zM0 (b + 9 + (V 1)) 0 x0) (b + 9 + (V 1)) 1 1) (b + 9 + (V 1)) 2 0) b 2) = (V 1) ∧ zR (V 1) := (fun q => ⟨q, q ▸ Wd.rm _ _⟩) ((zu_ne (by omega)).trans ((zu_ne (by omega)).trans ((zu_ne (by omega)).trans hR.c2)))
      refine z_top (congrArg zI he10) ?_
      clear he10
      refine z_iconst C0 dX10_settle_58 ?_
      refine z_iadd C0 dX10_settle_59 ?_
      refine zp_7_2 C0 Wd (znB0 hb) (zkB0 hb) (by have q0 := hz9.1; have p0 := hz9.2; exact zR_mk (by omega) (by omega)) zk_196 dX10_settle_60 (fun H locs Wd => ?_)
      refine z_gets C0 Wd (zc_F0 C0) zk_620 dX10_settle_63 ?_
      exact z_eret C0 Wd hret hlk (by have e : (zdAH x0 V) = ((0, V 1, zup (zup (zup (zup (zup V (72 + 4 * V 1) x0) (72 + 4 * V 1 + 1) 1) (72 + 4 * V 1 + 2) 0) (72 + 4 * V 1 + 3) 0) 1 (V 1 + 1)) : zO) := (by unfold zdAH; first | (rw [if_pos (by first | assumption | omega)]; done) | (rw [if_neg (by first | assumption | omega), if_pos (by first | assumption | omega)]; done) | (rw [if_neg (by first | assumption | omega)]; done) | (rw [if_neg (by first | assumption | omega), if_neg (by first | assumption | omega), if_pos (by first | assumption | omega)]; done) | (rw [if_neg (by first | assumption | omega), if_neg (by first | assumption | omega)]; done) | (rw [if_neg (by first | assumption | omega), if_neg (by first | assumption | omega), if_neg (by first | assumption | omega)]; done)); rw [e]; exact ⟨rfl, zR_settle hR hI (by omega), (zOut_u (zOut_u (zOut_u (zOut_u zOut_rf (by omega)) (by omega)) (by omega)) (by omega))⟩) dX10_settle_66
    · skip
      refine z_gets C0 Wd (zc_F4 C0) zk_619 dX10_settle_24 ?_
      exact z_eret C0 Wd hret hlk (by have e : (zdAH x0 V) = ((2, 0, V) : zO) := (by unfold zdAH; first | (rw [if_pos (by first | assumption | omega)]; done) | (rw [if_neg (by first | assumption | omega), if_pos (by first | assumption | omega)]; done) | (rw [if_neg (by first | assumption | omega)]; done) | (rw [if_neg (by first | assumption | omega), if_neg (by first | assumption | omega), if_pos (by first | assumption | omega)]; done) | (rw [if_neg (by first | assumption | omega), if_neg (by first | assumption | omega)]; done) | (rw [if_neg (by first | assumption | omega), if_neg (by first | assumption | omega), if_neg (by first | assumption | omega)]; done)); rw [e]; exact ⟨rfl, hR, zOut_rf⟩) dX10_settle_27
  · skip
    refine z_gets C0 Wd (zc_F1 C0) zk_618 dX10_settle_11 ?_
    exact z_eret C0 Wd hret hlk (by have e : (zdAH x0 V) = ((1, 0, V) : zO) := (by unfold zdAH; first | (rw [if_pos (by first | assumption | omega)]; done) | (rw [if_neg (by first | assumption | omega), if_pos (by first | assumption | omega)]; done) | (rw [if_neg (by first | assumption | omega)]; done) | (rw [if_neg (by first | assumption | omega), if_neg (by first | assumption | omega), if_pos (by first | assumption | omega)]; done) | (rw [if_neg (by first | assumption | omega), if_neg (by first | assumption | omega)]; done) | (rw [if_neg (by first | assumption | omega), if_neg (by first | assumption | omega), if_neg (by first | assumption | omega)]; done)); rw [e]; exact ⟨rfl, hR, zOut_rf⟩) dX10_settle_14
theorem kv_X10_go : zKV yX10_go cX10_go 3 (some (.object "DrumWarren$Fault")) "DrumWarren$State" 2 := ⟨zk_669, zk_667, zk_668, zk_26, by decide, by decide, by decide +kernel⟩
set_option maxHeartbeats 4000000 in
set_option maxRecDepth 100000 in
theorem ct_X10_go (l : Launch) (g : zG) (zX : va_W) (ad : Int → Nat) (zM0 zF0 : zMem) (b : Int) (hb : zB b) (V : Int → Int) (zt : Int) (x0 : Int) (hx0 : zR x0) (x1 : Int) (hx1 : zR x1) (hR : zRS b V zM0 zF0) (hI : zIV zt V) : zMt l yX10_go cX10_go 3 (some (.object "DrumWarren$Fault")) 2 0 0 g (0, 398, zX) ad [.ref (ad b), .int (zI x0), .int (zI x1)] zM0 zF0 (zPe g (fun r M' F' => zFt [1, 4] (zdMv x0 x1 V).1 r ∧ zRS b (zdMv x0 x1 V).2.2 M' F' ∧ zOut b zM0 zF0 M' F')) := by
  refine zMt.of "DrumWarren$State" rfl (by decide +kernel) (Nat.le_of_ble_eq_true rfl) (fun {p e s m args below meth c ls} C0 Wd hl hret hlk hin => ?_)
  have hl : lv_has ls 3 [(0, .ref (ad b)), (1, .int (zI x0)), (2, .int (zI x1))] := hl
  have h0b := hI.1
  have h1b := hI.2.1
  have h2b := hI.2.2.1
  have hTb := hI.2.2.2.2.1
  have hbb := zB_bd hb
  refine z_aload_n C0 hl 0 rfl dX10_go_0 ?_
  refine z_iload_n C0 hl 1 rfl dX10_go_1 ?_
  refine z_invVi (As := [.int (zI x0)]) (rest := []) C0 Wd (ct_X10_hasHare l g zX ad zM0 zF0 b hb V zt x0 hx0 hR hI) kv_X10_hasHare (znB0 hb) (zE_7 (zkB0 hb)) rfl zk_632 rfl hl.1 rfl (Nat.le_of_ble_eq_true rfl) (by decide) (by decide) dX10_go_2 (fun r1 zMr1 zFr1 H locs hrr1 hp Wd => ?_)
  obtain ⟨rfl, rfl, rfl⟩ := hp
  refine z_if_eq_b C0 (tgt := 19) dX10_go_5 (by decide) (fun c3 => ?_) (fun c3 => ?_)
  · skip
    refine z_gets C0 Wd (zc_F1 C0) zk_618 dX10_go_19 ?_
    exact z_eret C0 Wd hret hlk (by have e : (zdMv x0 x1 V) = ((1, 0, V) : zO) := (by unfold zdMv; first | (rw [if_pos (by first | assumption | omega)]; done) | (rw [if_neg (by first | assumption | omega), if_pos (by first | assumption | omega)]; done) | (rw [if_neg (by first | assumption | omega)]; done) | (rw [if_neg (by first | assumption | omega), if_neg (by first | assumption | omega), if_pos (by first | assumption | omega)]; done) | (rw [if_neg (by first | assumption | omega), if_neg (by first | assumption | omega)]; done) | (rw [if_neg (by first | assumption | omega), if_neg (by first | assumption | omega), if_neg (by first | assumption | omega)]; done)); rw [e]; exact ⟨rfl, hR, zOut_rf⟩) dX10_go_22
  · skip
    refine z_aload_n C0 hl 0 rfl dX10_go_8 ?_
    refine zg_7_0 C0 Wd (znB0 hb) (zkB0 hb) zk_193 dX10_go_9 ?_
    refine z_iload_n C0 hl 2 rfl dX10_go_12 ?_
    refine z_invVi (As := [.int (zI x1)]) (rest := []) C0 Wd (ct_X2_has l g zX ad zM0 zF0 b hb V x1 hx1 hR.B) kv_X2_has (znB1 hb) (zE_1 (zkB1 hb)) rfl zk_617 rfl hl.1 rfl (Nat.le_of_ble_eq_true rfl) (by decide) (by decide) dX10_go_13 (fun r4 zMr4 zFr4 H locs hrr4 hp Wd => ?_)
    obtain ⟨rfl, rfl, rfl⟩ := hp
    refine z_if_ne_b C0 (tgt := 23) dX10_go_16 (by decide) (fun c6 => ?_) (fun c6 => ?_)
    · skip
      refine z_aload_n C0 hl 0 rfl dX10_go_23 ?_
      refine z_iload_n C0 hl 1 rfl dX10_go_24 ?_
      refine z_invVi (As := [.int (zI x0)]) (rest := []) C0 Wd (ct_X10_drums l g zX ad zM0 zF0 b hb V zt x0 hx0 hR hI) kv_X10_drums (znB0 hb) (zE_7 (zkB0 hb)) rfl zk_670 rfl hl.1 rfl (Nat.le_of_ble_eq_true rfl) (by decide) (by decide) dX10_go_25 (fun r7 zMr7 zFr7 H locs hrr7 hp Wd => ?_)
      obtain ⟨rfl, rfl, rfl⟩ := hp
      refine z_if_eq_b C0 (tgt := 35) dX10_go_28 (by decide) (fun c9 => ?_) (fun c9 => ?_)
      · skip
        refine z_aload_n C0 hl 0 rfl dX10_go_35 ?_
        refine zg_7_1 C0 Wd (znB0 hb) (zkB0 hb) zk_195 dX10_go_36 ?_
        refine z_iload_n C0 hl 1 rfl dX10_go_39 ?_
        refine z_aald15 C0 Wd (znB5 hb) (zkB5 hb) (zlB5 hb) (by omega) (by omega) (by decide) dX10_go_40 ?_
        refine z_rf (show ((b + 5) + 4 + x0) = (b + 9 + x0) by omega) ?_
        refine z_iload_n C0 hl 2 rfl dX10_go_41 ?_
        refine zp_4_0 C0 Wd (znBh hb (by omega) (by omega)) (zkBh hb (by omega) (by omega)) hx1 zk_133 dX10_go_42 (fun H locs Wd => ?_)
        refine z_gets C0 Wd (zc_F0 C0) zk_620 dX10_go_45 ?_
        exact z_eret C0 Wd hret hlk (by have e : (zdMv x0 x1 V) = ((0, V (72 + 4 * x0 + 0), zup V (72 + 4 * x0) x1) : zO) := (by unfold zdMv; first | (rw [if_pos (by first | assumption | omega)]; done) | (rw [if_neg (by first | assumption | omega), if_pos (by first | assumption | omega)]; done) | (rw [if_neg (by first | assumption | omega)]; done) | (rw [if_neg (by first | assumption | omega), if_neg (by first | assumption | omega), if_pos (by first | assumption | omega)]; done) | (rw [if_neg (by first | assumption | omega), if_neg (by first | assumption | omega)]; done) | (rw [if_neg (by first | assumption | omega), if_neg (by first | assumption | omega), if_neg (by first | assumption | omega)]; done)); rw [e]; exact ⟨rfl, zR_go hR hI (by omega), (zOut_u zOut_rf (by omega))⟩) dX10_go_48
      · skip
        refine z_gets C0 Wd (zc_F4 C0) zk_619 dX10_go_31 ?_
        exact z_eret C0 Wd hret hlk (by have e : (zdMv x0 x1 V) = ((2, 0, V) : zO) := (by unfold zdMv; first | (rw [if_pos (by first | assumption | omega)]; done) | (rw [if_neg (by first | assumption | omega), if_pos (by first | assumption | omega)]; done) | (rw [if_neg (by first | assumption | omega)]; done) | (rw [if_neg (by first | assumption | omega), if_neg (by first | assumption | omega), if_pos (by first | assumption | omega)]; done) | (rw [if_neg (by first | assumption | omega), if_neg (by first | assumption | omega)]; done) | (rw [if_neg (by first | assumption | omega), if_neg (by first | assumption | omega), if_neg (by first | assumption | omega)]; done)); rw [e]; exact ⟨rfl, hR, zOut_rf⟩) dX10_go_34
    · skip
      refine z_gets C0 Wd (zc_F1 C0) zk_618 dX10_go_19 ?_
      exact z_eret C0 Wd hret hlk (by have e : (zdMv x0 x1 V) = ((1, 0, V) : zO) := (by unfold zdMv; first | (rw [if_pos (by first | assumption | omega)]; done) | (rw [if_neg (by first | assumption | omega), if_pos (by first | assumption | omega)]; done) | (rw [if_neg (by first | assumption | omega)]; done) | (rw [if_neg (by first | assumption | omega), if_neg (by first | assumption | omega), if_pos (by first | assumption | omega)]; done) | (rw [if_neg (by first | assumption | omega), if_neg (by first | assumption | omega)]; done) | (rw [if_neg (by first | assumption | omega), if_neg (by first | assumption | omega), if_neg (by first | assumption | omega)]; done)); rw [e]; exact ⟨rfl, hR, zOut_rf⟩) dX10_go_22
theorem kv_X10_letListen : zKV yX10_letListen cX10_letListen 3 (some (.object "DrumWarren$Fault")) "DrumWarren$State" 2 := ⟨zk_654, zk_652, zk_653, zk_26, by decide, by decide, by decide +kernel⟩
set_option maxHeartbeats 4000000 in
set_option maxRecDepth 100000 in
theorem ct_X10_letListen (l : Launch) (g : zG) (zX : va_W) (ad : Int → Nat) (zM0 zF0 : zMem) (b : Int) (hb : zB b) (V : Int → Int) (zt : Int) (x0 : Int) (hx0 : zR x0) (P : Prop) [Decidable P] (hR : zRS b V zM0 zF0) (hI : zIV zt V) : zMt l yX10_letListen cX10_letListen 3 (some (.object "DrumWarren$Fault")) 2 0 0 g (0, 398, zX) ad [.ref (ad b), .int (zI x0), .int (zI (zb P))] zM0 zF0 (zPe g (fun r M' F' => zFt [1] (zdLi x0 (P) V).1 r ∧ zRS b (zdLi x0 (P) V).2.2 M' F' ∧ zOut b zM0 zF0 M' F')) := by
  refine zMt.of "DrumWarren$State" rfl (by decide +kernel) (Nat.le_of_ble_eq_true rfl) (fun {p e s m args below meth c ls} C0 Wd hl hret hlk hin => ?_)
  have hl : lv_has ls 3 [(0, .ref (ad b)), (1, .int (zI x0)), (2, .int (zI (zb (P))))] := hl
  have h0b := hI.1
  have h1b := hI.2.1
  have h2b := hI.2.2.1
  have hTb := hI.2.2.2.2.1
  have hbb := zB_bd hb
  refine z_aload_n C0 hl 0 rfl dX10_letListen_0 ?_
  refine z_iload_n C0 hl 1 rfl dX10_letListen_1 ?_
  refine z_invVi (As := [.int (zI x0)]) (rest := []) C0 Wd (ct_X10_hasHare l g zX ad zM0 zF0 b hb V zt x0 hx0 hR hI) kv_X10_hasHare (znB0 hb) (zE_7 (zkB0 hb)) rfl zk_632 rfl hl.1 rfl (Nat.le_of_ble_eq_true rfl) (by decide) (by decide) dX10_letListen_2 (fun r1 zMr1 zFr1 H locs hrr1 hp Wd => ?_)
  obtain ⟨rfl, rfl, rfl⟩ := hp
  refine z_if_ne_b C0 (tgt := 12) dX10_letListen_5 (by decide) (fun c3 => ?_) (fun c3 => ?_)
  · skip
    refine z_aload_n C0 hl 0 rfl dX10_letListen_12 ?_
    refine zg_7_1 C0 Wd (znB0 hb) (zkB0 hb) zk_195 dX10_letListen_13 ?_
    refine z_iload_n C0 hl 1 rfl dX10_letListen_16 ?_
    refine z_aald15 C0 Wd (znB5 hb) (zkB5 hb) (zlB5 hb) (by omega) (by omega) (by decide) dX10_letListen_17 ?_
    refine z_rf (show ((b + 5) + 4 + x0) = (b + 9 + x0) by omega) ?_
    refine z_iload_n C0 hl 2 rfl dX10_letListen_18 ?_
    refine zp_4_1 C0 Wd (znBh hb (by omega) (by omega)) (zkBh hb (by omega) (by omega)) (zb_01 _) zk_135 dX10_letListen_19 (fun H locs Wd => ?_)
    refine z_gets C0 Wd (zc_F0 C0) zk_620 dX10_letListen_22 ?_
    exact z_eret C0 Wd hret hlk (by have e : (zdLi x0 (P) V) = ((0, V (72 + 4 * x0 + 1), zup V (72 + 4 * x0 + 1) (zb P)) : zO) := (by unfold zdLi; first | (rw [if_pos (by first | assumption | omega)]; done) | (rw [if_neg (by first | assumption | omega), if_pos (by first | assumption | omega)]; done) | (rw [if_neg (by first | assumption | omega)]; done) | (rw [if_neg (by first | assumption | omega), if_neg (by first | assumption | omega), if_pos (by first | assumption | omega)]; done) | (rw [if_neg (by first | assumption | omega), if_neg (by first | assumption | omega)]; done) | (rw [if_neg (by first | assumption | omega), if_neg (by first | assumption | omega), if_neg (by first | assumption | omega)]; done)); rw [e]; exact ⟨rfl, zR_listen hR hI (by omega), (zOut_u zOut_rf (by omega))⟩) dX10_letListen_25
  · skip
    refine z_gets C0 Wd (zc_F1 C0) zk_618 dX10_letListen_8 ?_
    exact z_eret C0 Wd hret hlk (by have e : (zdLi x0 (P) V) = ((1, 0, V) : zO) := (by unfold zdLi; first | (rw [if_pos (by first | assumption | omega)]; done) | (rw [if_neg (by first | assumption | omega), if_pos (by first | assumption | omega)]; done) | (rw [if_neg (by first | assumption | omega)]; done) | (rw [if_neg (by first | assumption | omega), if_neg (by first | assumption | omega), if_pos (by first | assumption | omega)]; done) | (rw [if_neg (by first | assumption | omega), if_neg (by first | assumption | omega)]; done) | (rw [if_neg (by first | assumption | omega), if_neg (by first | assumption | omega), if_neg (by first | assumption | omega)]; done)); rw [e]; exact ⟨rfl, hR, zOut_rf⟩) dX10_letListen_11
theorem kv_X10_addMessage : zKV yX10_addMessage cX10_addMessage 5 (some (.object "DrumWarren$Fault")) "DrumWarren$State" 3 := ⟨zk_631, zk_629, zk_630, zk_26, by decide, by decide, by decide +kernel⟩
set_option maxHeartbeats 4000000 in
set_option maxRecDepth 100000 in
theorem ct_X10_addMessage (l : Launch) (g : zG) (zX : va_W) (ad : Int → Nat) (zM0 zF0 : zMem) (b : Int) (hb : zB b) (V : Int → Int) (zt : Int) (x0 : Int) (hx0 : zR x0) (x1 : Int) (hx1 : zR x1) (x2 : Int) (hx2 : zR x2) (hR : zRS b V zM0 zF0) (hI : zIV zt V) (h3 : V 3 ≤ 100000000) : zMt l yX10_addMessage cX10_addMessage 5 (some (.object "DrumWarren$Fault")) 1 0 0 g (0, 398, zX) ad [.ref (ad b), .int (zI x0), .int (zI x1), .int (zI x2)] zM0 zF0 (zPe g (fun r M' F' => zFt [1, 3, 4] (zdSay x0 x1 x2 V).1 r ∧ zRS b (zdSay x0 x1 x2 V).2.2 M' F' ∧ zOut b zM0 zF0 M' F')) := by
  refine zMt.of "DrumWarren$State" rfl (by decide +kernel) (Nat.le_of_ble_eq_true rfl) (fun {p e s m args below meth c ls} C0 Wd hl hret hlk hin => ?_)
  have hl : lv_has ls 5 [(0, .ref (ad b)), (1, .int (zI x0)), (2, .int (zI x1)), (3, .int (zI x2))] := hl
  have h0b := hI.1
  have h1b := hI.2.1
  have h2b := hI.2.2.1
  have hTb := hI.2.2.2.2.1
  have hbb := zB_bd hb
  refine z_aload_n C0 hl 0 rfl dX10_addMessage_0 ?_
  refine z_iload_n C0 hl 1 rfl dX10_addMessage_1 ?_
  refine z_invVi (As := [.int (zI x0)]) (rest := []) C0 Wd (ct_X10_hasHare l g zX ad zM0 zF0 b hb V zt x0 hx0 hR hI) kv_X10_hasHare (znB0 hb) (zE_7 (zkB0 hb)) rfl zk_632 rfl hl.1 rfl (Nat.le_of_ble_eq_true rfl) (by decide) (by decide) dX10_addMessage_2 (fun r1 zMr1 zFr1 H locs hrr1 hp Wd => ?_)
  obtain ⟨rfl, rfl, rfl⟩ := hp
  refine z_if_eq_b C0 (tgt := 16) dX10_addMessage_5 (by decide) (fun c3 => ?_) (fun c3 => ?_)
  · skip
    refine z_gets C0 Wd (zc_F1 C0) zk_618 dX10_addMessage_16 ?_
    exact z_eret C0 Wd hret hlk (by have e : (zdSay x0 x1 x2 V) = ((1, 0, V) : zO) := (by unfold zdSay; first | (rw [if_pos (by first | assumption | omega)]; done) | (rw [if_neg (by first | assumption | omega), if_pos (by first | assumption | omega)]; done) | (rw [if_neg (by first | assumption | omega)]; done) | (rw [if_neg (by first | assumption | omega), if_neg (by first | assumption | omega), if_pos (by first | assumption | omega)]; done) | (rw [if_neg (by first | assumption | omega), if_neg (by first | assumption | omega)]; done) | (rw [if_neg (by first | assumption | omega), if_neg (by first | assumption | omega), if_neg (by first | assumption | omega)]; done)); rw [e]; exact ⟨rfl, hR, zOut_rf⟩) dX10_addMessage_19
  · skip
    refine z_aload_n C0 hl 0 rfl dX10_addMessage_8 ?_
    refine z_iload_n C0 hl 2 rfl dX10_addMessage_9 ?_
    refine z_invVi (As := [.int (zI x1)]) (rest := []) C0 Wd (ct_X10_hasHare l g zX ad zM0 zF0 b hb V zt x1 hx1 hR hI) kv_X10_hasHare (znB0 hb) (zE_7 (zkB0 hb)) rfl zk_632 rfl hl.1 rfl (Nat.le_of_ble_eq_true rfl) (by decide) (by decide) dX10_addMessage_10 (fun r4 zMr4 zFr4 H locs hrr4 hp Wd => ?_)
    obtain ⟨rfl, rfl, rfl⟩ := hp
    refine z_if_ne_b C0 (tgt := 20) dX10_addMessage_13 (by decide) (fun c6 => ?_) (fun c6 => ?_)
    · skip
      refine z_iload_n C0 hl 1 rfl dX10_addMessage_20 ?_
      refine z_iload_n C0 hl 2 rfl dX10_addMessage_21 ?_
      refine z_icmp_eq C0 (tgt := 32) hx0 hx1 dX10_addMessage_22 (by decide) (fun c7 => ?_) (fun c7 => ?_)
      · skip
        refine z_gets C0 Wd (zc_F3 C0) zk_639 dX10_addMessage_32 ?_
        exact z_eret C0 Wd hret hlk (by have e : (zdSay x0 x1 x2 V) = ((2, 0, V) : zO) := (by unfold zdSay; first | (rw [if_pos (by first | assumption | omega)]; done) | (rw [if_neg (by first | assumption | omega), if_pos (by first | assumption | omega)]; done) | (rw [if_neg (by first | assumption | omega)]; done) | (rw [if_neg (by first | assumption | omega), if_neg (by first | assumption | omega), if_pos (by first | assumption | omega)]; done) | (rw [if_neg (by first | assumption | omega), if_neg (by first | assumption | omega)]; done) | (rw [if_neg (by first | assumption | omega), if_neg (by first | assumption | omega), if_neg (by first | assumption | omega)]; done)); rw [e]; exact ⟨rfl, hR, zOut_rf⟩) dX10_addMessage_35
      · skip
        refine z_iload_n C0 hl 3 rfl dX10_addMessage_25 ?_
        refine z_invSN (As := [.int (zI x2)]) (rest := []) C0 Wd (ct_X11_isNumber l g zX ad zM0 zF0 x2 hx2) kv_X11_isNumber (zc_nm C0 (q := ("DrumWarren$State", 123, ⟨"DrumWarren", "isNumber", "(I)Z"⟩, "DrumWarren")) (List.mem_of_getElem? (i := 0) rfl)) rfl hl.1 rfl (Nat.le_of_ble_eq_true rfl) (by decide) (by decide) dX10_addMessage_26 (z_kki (fun r8 zMr8 zFr8 H locs hrr8 hp Wd => ?_))
        obtain ⟨rfl, rfl, rfl⟩ := hp
        refine z_if_ne_b C0 (tgt := 36) dX10_addMessage_29 (by decide) (fun c10 => ?_) (fun c10 => ?_)
        · skip
          refine z_aload_n C0 hl 0 rfl dX10_addMessage_36 ?_
          refine zg_7_4 C0 Wd (znB0 hb) (zkB0 hb) zk_200 dX10_addMessage_37 ?_
          obtain ⟨he12, hz11⟩ : (zM0 b 4) = (V 2) ∧ zR (V 2) := (fun q => ⟨q, q ▸ Wd.rm _ _⟩) hR.c4
          refine z_top (congrArg zI he12) ?_
          clear he12
          refine z_bipush C0 dX10_addMessage_40 (by decide) ?_
          refine z_icmp_lt C0 (tgt := 49) hz11 (zR_mk (by decide) (by decide)) dX10_addMessage_42 (by decide) (fun c13 => ?_) (fun c13 => ?_)
          · skip
            refine z_aload_n C0 hl 0 rfl dX10_addMessage_49 ?_
            refine zg_7_3 C0 Wd (znB0 hb) (zkB0 hb) zk_198 dX10_addMessage_50 ?_
            refine z_aload_n C0 hl 0 rfl dX10_addMessage_53 ?_
            refine zg_7_4 C0 Wd (znB0 hb) (zkB0 hb) zk_200 dX10_addMessage_54 ?_
            obtain ⟨he15, hz14⟩ : (zM0 b 4) = (V 2) ∧ zR (V 2) := (fun q => ⟨q, q ▸ Wd.rm _ _⟩) hR.c4
            refine z_top (congrArg zI he15) ?_
            clear he15
            refine z_aald16 C0 Wd (znB6 hb) (zkB6 hb) (zlB6 hb) (by omega) (by omega) (by decide) dX10_addMessage_57 ?_
            have hmo := hR.mo h2b.1 (show V 2 < 8 by omega)
            have hbd := zMo_bd hmo
            have h3b := hI.2.2.2.1 3 (by decide) (by decide)
            refine z_astore C0 hl [(4, .ref (ad (zF0 (b + 6) (V 2)))), (0, .ref (ad b)), (1, .int (zI x0)), (2, .int (zI x1)), (3, .int (zI x2))] (by decide) rfl dX10_addMessage_58 (fun ls hl => ?_)
            refine z_aload C0 hl 0 rfl dX10_addMessage_60 ?_
            refine z_aload_n C0 hl 1 rfl dX10_addMessage_62 ?_
            refine zg_7_5 C0 Wd (znB0 hb) (zkB0 hb) zk_202 dX10_addMessage_63 ?_
            obtain ⟨he17, hz16⟩ : (zM0 b 5) = (V 3) ∧ zR (V 3) := (fun q => ⟨q, q ▸ Wd.rm _ _⟩) hR.c5
            refine z_top (congrArg zI he17) ?_
            clear he17
            refine zp_6_0 C0 Wd (znO (hR.mo (by omega) (by omega))) (zkO (hR.mo (by omega) (by omega))) hz16 zk_155 dX10_addMessage_66 (fun H locs Wd => ?_)
            refine z_aload C0 hl 0 rfl dX10_addMessage_69 ?_
            refine z_iload_n C0 hl 2 rfl dX10_addMessage_71 ?_
            refine zp_6_1 C0 Wd (znO (hR.mo (by omega) (by omega))) (zkO (hR.mo (by omega) (by omega))) hx0 zk_158 dX10_addMessage_72 (fun H locs Wd => ?_)
            refine z_aload C0 hl 0 rfl dX10_addMessage_75 ?_
            refine z_iload_n C0 hl 3 rfl dX10_addMessage_77 ?_
            refine zp_6_2 C0 Wd (znO (hR.mo (by omega) (by omega))) (zkO (hR.mo (by omega) (by omega))) hx1 zk_161 dX10_addMessage_78 (fun H locs Wd => ?_)
            refine z_aload C0 hl 0 rfl dX10_addMessage_81 ?_
            refine z_iload_n C0 hl 4 rfl dX10_addMessage_83 ?_
            refine zp_6_3 C0 Wd (znO (hR.mo (by omega) (by omega))) (zkO (hR.mo (by omega) (by omega))) hx2 zk_164 dX10_addMessage_84 (fun H locs Wd => ?_)
            refine z_aload C0 hl 0 rfl dX10_addMessage_87 ?_
            refine z_bipush C0 dX10_addMessage_89 (by decide) ?_
            refine zp_6_4 C0 Wd (znO (hR.mo (by omega) (by omega))) (zkO (hR.mo (by omega) (by omega))) (by omega) (by omega) zk_167 dX10_addMessage_91 (fun H locs Wd => ?_)
            refine z_aload C0 hl 0 rfl dX10_addMessage_94 ?_
            refine z_iconst C0 dX10_addMessage_96 ?_
            refine zp_6_5 C0 Wd (znO (hR.mo (by omega) (by omega))) (zkO (hR.mo (by omega) (by omega))) (zR_mk (by decide) (by decide)) zk_170 dX10_addMessage_97 (fun H locs Wd => ?_)
            refine z_aload C0 hl 0 rfl dX10_addMessage_100 ?_
            refine z_iconst C0 dX10_addMessage_102 ?_
            refine zp_6_6 C0 Wd (znO (hR.mo (by omega) (by omega))) (zkO (hR.mo (by omega) (by omega))) (zR_mk (by decide) (by decide)) zk_173 dX10_addMessage_103 (fun H locs Wd => ?_)
            refine z_aload_n C0 hl 1 rfl dX10_addMessage_106 ?_
            refine z_dup C0 rfl dX10_addMessage_107 ?_
            refine zg_7_4 C0 Wd (znB0 hb) (zkB0 hb) zk_200 dX10_addMessage_108 ?_
            obtain ⟨he19, hz18⟩ : ((zu (zu (zu (zu (zu (zu (zu zM0 (zF0 (b + 6) (V 2)) 0 (V 3)) (zF0 (b + 6) (V 2)) 1 x0) (zF0 (b + 6) (V 2)) 2 x1) (zF0 (b + 6) (V 2)) 3 x2) (zF0 (b + 6) (V 2)) 4 119) (zF0 (b + 6) (V 2)) 5 0) (zF0 (b + 6) (V 2)) 6 0) b 4) = (V 2) ∧ zR (V 2) := (fun q => ⟨q, q ▸ Wd.rm _ _⟩) ((zu_ne (by omega)).trans ((zu_ne (by omega)).trans ((zu_ne (by omega)).trans ((zu_ne (by omega)).trans ((zu_ne (by omega)).trans ((zu_ne (by omega)).trans ((zu_ne (by omega)).trans hR.c4)))))))
            refine z_top (congrArg zI he19) ?_
            clear he19
            refine z_iconst C0 dX10_addMessage_111 ?_
            refine z_iadd C0 dX10_addMessage_112 ?_
            refine zp_7_4 C0 Wd (znB0 hb) (zkB0 hb) (by have q0 := hz18.1; have p0 := hz18.2; exact zR_mk (by omega) (by omega)) zk_200 dX10_addMessage_113 (fun H locs Wd => ?_)
            refine z_aload_n C0 hl 1 rfl dX10_addMessage_116 ?_
            refine z_dup C0 rfl dX10_addMessage_117 ?_
            refine zg_7_5 C0 Wd (znB0 hb) (zkB0 hb) zk_202 dX10_addMessage_118 ?_
            obtain ⟨he21, hz20⟩ : ((zu (zu (zu (zu (zu (zu (zu (zu zM0 (zF0 (b + 6) (V 2)) 0 (V 3)) (zF0 (b + 6) (V 2)) 1 x0) (zF0 (b + 6) (V 2)) 2 x1) (zF0 (b + 6) (V 2)) 3 x2) (zF0 (b + 6) (V 2)) 4 119) (zF0 (b + 6) (V 2)) 5 0) (zF0 (b + 6) (V 2)) 6 0) b 4 ((V 2) + 1)) b 5) = (V 3) ∧ zR (V 3) := (fun q => ⟨q, q ▸ Wd.rm _ _⟩) ((zu_ne (by omega)).trans ((zu_ne (by omega)).trans ((zu_ne (by omega)).trans ((zu_ne (by omega)).trans ((zu_ne (by omega)).trans ((zu_ne (by omega)).trans ((zu_ne (by omega)).trans ((zu_ne (by omega)).trans hR.c5))))))))
            refine z_top (congrArg zI he21) ?_
            clear he21
            refine z_iconst C0 dX10_addMessage_121 ?_
            refine z_iadd C0 dX10_addMessage_122 ?_
            refine zp_7_5 C0 Wd (znB0 hb) (zkB0 hb) (by have q0 := hz20.1; have p0 := hz20.2; exact zR_mk (by omega) (by omega)) zk_202 dX10_addMessage_123 (fun H locs Wd => ?_)
            refine z_gets C0 Wd (zc_F0 C0) zk_620 dX10_addMessage_126 ?_
            exact z_eret C0 Wd hret hlk (by have e : (zdSay x0 x1 x2 V) = ((0, V 3 + 1 - 1, zdSayR x0 x1 x2 V) : zO) := (by unfold zdSay; first | (rw [if_pos (by first | assumption | omega)]; done) | (rw [if_neg (by first | assumption | omega), if_pos (by first | assumption | omega)]; done) | (rw [if_neg (by first | assumption | omega)]; done) | (rw [if_neg (by first | assumption | omega), if_neg (by first | assumption | omega), if_pos (by first | assumption | omega)]; done) | (rw [if_neg (by first | assumption | omega), if_neg (by first | assumption | omega)]; done) | (rw [if_neg (by first | assumption | omega), if_neg (by first | assumption | omega), if_neg (by first | assumption | omega)]; done)); rw [e]; exact ⟨rfl, zR_say hR hI (by omega), (zOut_u (zOut_u (zOut_u (zOut_u (zOut_u (zOut_u (zOut_u (zOut_u (zOut_u zOut_rf (by omega)) (by omega)) (by omega)) (by omega)) (by omega)) (by omega)) (by omega)) (by omega)) (by omega))⟩) dX10_addMessage_129
          · skip
            refine z_gets C0 Wd (zc_F4 C0) zk_619 dX10_addMessage_45 ?_
            exact z_eret C0 Wd hret hlk (by have e : (zdSay x0 x1 x2 V) = ((3, 0, V) : zO) := (by unfold zdSay; first | (rw [if_pos (by first | assumption | omega)]; done) | (rw [if_neg (by first | assumption | omega), if_pos (by first | assumption | omega)]; done) | (rw [if_neg (by first | assumption | omega)]; done) | (rw [if_neg (by first | assumption | omega), if_neg (by first | assumption | omega), if_pos (by first | assumption | omega)]; done) | (rw [if_neg (by first | assumption | omega), if_neg (by first | assumption | omega)]; done) | (rw [if_neg (by first | assumption | omega), if_neg (by first | assumption | omega), if_neg (by first | assumption | omega)]; done)); rw [e]; exact ⟨rfl, hR, zOut_rf⟩) dX10_addMessage_48
        · skip
          refine z_gets C0 Wd (zc_F3 C0) zk_639 dX10_addMessage_32 ?_
          exact z_eret C0 Wd hret hlk (by have e : (zdSay x0 x1 x2 V) = ((2, 0, V) : zO) := (by unfold zdSay; first | (rw [if_pos (by first | assumption | omega)]; done) | (rw [if_neg (by first | assumption | omega), if_pos (by first | assumption | omega)]; done) | (rw [if_neg (by first | assumption | omega)]; done) | (rw [if_neg (by first | assumption | omega), if_neg (by first | assumption | omega), if_pos (by first | assumption | omega)]; done) | (rw [if_neg (by first | assumption | omega), if_neg (by first | assumption | omega)]; done) | (rw [if_neg (by first | assumption | omega), if_neg (by first | assumption | omega), if_neg (by first | assumption | omega)]; done)); rw [e]; exact ⟨rfl, hR, zOut_rf⟩) dX10_addMessage_35
    · skip
      refine z_gets C0 Wd (zc_F1 C0) zk_618 dX10_addMessage_16 ?_
      exact z_eret C0 Wd hret hlk (by have e : (zdSay x0 x1 x2 V) = ((1, 0, V) : zO) := (by unfold zdSay; first | (rw [if_pos (by first | assumption | omega)]; done) | (rw [if_neg (by first | assumption | omega), if_pos (by first | assumption | omega)]; done) | (rw [if_neg (by first | assumption | omega)]; done) | (rw [if_neg (by first | assumption | omega), if_neg (by first | assumption | omega), if_pos (by first | assumption | omega)]; done) | (rw [if_neg (by first | assumption | omega), if_neg (by first | assumption | omega)]; done) | (rw [if_neg (by first | assumption | omega), if_neg (by first | assumption | omega), if_neg (by first | assumption | omega)]; done)); rw [e]; exact ⟨rfl, hR, zOut_rf⟩) dX10_addMessage_19
