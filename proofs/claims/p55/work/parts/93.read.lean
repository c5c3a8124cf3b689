/-! the class's reader: a form -/
theorem kv_X5_readForm : zKV yX5_readForm cX5_readForm 7 (some .boolean) "DrumWarren$CommandReader" 3 := ⟨zk_1561, zk_1560, zk_17, zk_32, by decide, by decide, by decide +kernel⟩
set_option maxHeartbeats 4000000 in
set_option maxRecDepth 100000 in
theorem ct_X5_readForm (l : Launch) (g : zG) (zX : va_W) (ad : Int → Nat) (zM0 zF0 : zMem) (T : Int → Int) (n : Int) (f w : Int) (hcw : zCm w) (x1 : Int) (hx1 : zR x1) (hC : zCS T n zM0) (hT : ∀ j, 0 ≤ T j ∧ T j < 65536) (hf0 : 10 ≤ f) (hf1 : f < 18) (ha : 0 ≤ x1 ∧ x1 ≤ n) : zMt l yX5_readForm cX5_readForm 7 (some .boolean) 4 0 0 g (0, 398, zX) ad [.ref (ad 375), .ref (g.2.2.2 f), .int (zI x1), .ref (ad w)] zM0 zF0 (zPi (fun r M' F' => zRF T n f x1 w zM0 zF0 r M' F')) := by
  refine zMt.of "DrumWarren$CommandReader" rfl (by decide +kernel) (Nat.le_of_ble_eq_true rfl) (fun {p e s m args below meth c ls} C0 Wd hl hret hlk hin => ?_)
  have hl : lv_has ls 7 [(0, .ref (ad 375)), (1, .ref (g.2.2.2 f)), (2, .int (zI x1)), (3, .ref (ad w))] := hl
  obtain ⟨hC1, hC2, hC3⟩ := id hC
  have hwb := zCm_bd hcw
  obtain ⟨q, hqe⟩ : ∃ q, q = zFq f := ⟨_, rfl⟩
  have hq : q ∈ zTxt := by rw [hqe]; exact (zFq_in hf0 hf1).1
  have hq1 : f + 10 = q.1 := by rw [hqe]; exact (zFq_in hf0 hf1).2.1.symm
  have hlq := ztx_f q hq (by omega)
  have hal : zfs T n (ztx q) q.2.2.length x1 = zfw T n (ztl (zFq f)) x1 := by rw [← hqe]; exact zfs_all
  refine z_aload_n C0 hl 3 rfl dX5_readForm_0 ?_
  refine z_aload_n C0 hl 1 rfl dX5_readForm_1 ?_
  refine zp_2_0 C0 Wd (znQ hcw) (zkQ hcw) zk_273 dX5_readForm_2 (fun H locs Wd => ?_)
  refine z_aload_n C0 hl 3 rfl dX5_readForm_5 ?_
  refine z_iconst C0 dX5_readForm_6 ?_
  refine zp_2_2 C0 Wd (znQ hcw) (zkQ hcw) (zR_mk (by decide) (by decide)) zk_278 dX5_readForm_7 (fun H locs Wd => ?_)
  refine z_aload_n C0 hl 0 rfl dX5_readForm_10 ?_
  refine z_iload_n C0 hl 2 rfl dX5_readForm_11 ?_
  refine zp_3_5 C0 Wd zN375 zK375 hx1 zk_296 dX5_readForm_12 (fun H locs Wd => ?_)
  refine z_iconst C0 dX5_readForm_15 ?_
  refine z_istore C0 hl [(4, .int (zI 0)), (0, .ref (ad 375)), (1, .ref (g.2.2.2 f)), (2, .int (zI x1)), (3, .ref (ad w))] (by decide) rfl dX5_readForm_16 (fun ls hl => ?_)
  have aft18 : ∀ (k18 : Nat) (hk18 : (k18 : Int) ≤ (q.2.2.length : Int)) (M2 : zMem) (hi0 : 0 ≤ (zfs T n (ztx q) k18 x1)) (hpos : M2 375 5 = (zfs T n (ztx q) k18 x1)) (hcn : M2 w 2 = zct q k18) (hfr : ∀ i, i ≠ 375 → i ≠ w → i ≠ w + 1 → M2 i = zM0 i) (hf5 : ∀ j, j ≠ 5 → M2 375 j = zM0 375 j) (hag : ∀ i : Nat, i < k18 → (ztx q (i : Int) = 35 ∨ ztx q (i : Int) = 37) → M2 (w + 1) (zct q i) = znv T n (ztx q (i : Int)) (zfs T n (ztx q) i x1)) (hx18 : (k18 : Int) = (q.2.2.length : Int)) (H : Heap) (locs : List Loc) (ls : Array Slot) (Wd : zW g (zA (0, 398, zX) ad s.heap.size) s.heap (0, 398, zX) ad M2 (zu zF0 w 0 f) H locs) (hl : lv_has ls 7 [(0, .ref (ad 375)), (1, .ref (g.2.2.2 f)), (2, .int (zI x1)), (3, .ref (ad w)), (4, .int (zI (k18 : Int)))]), W p l e (zrm 4 0 0) s m args below meth c H locs 0 0 (zMQ below g (0, 398, zX) ad (zPi (fun r M' F' => zRF T n f x1 w zM0 zF0 r M' F')) args s 0 0) (F0 m 96 ls []) := by
    intro k18 hk18 M2 hi0 hpos hcn hfr hf5 hag hx18 H locs ls Wd hl
    replace hl : lv_has ls 7 [(0, .ref (ad 375)), (1, .ref (g.2.2.2 f)), (2, .int (zI x1)), (3, .ref (ad w))] := lv_sub hl [0, 1, 2, 3] rfl
    refine z_iconst C0 dX5_readForm_96 ?_
    have hRF : zRF T n f x1 w zM0 zF0 1 M2 (zu zF0 w 0 f) := by
      have ek9 : k18 = q.2.2.length := by omega
      rw [ek9, hal] at hi0 hpos
      refine ⟨zb_t hi0, by rw [zps_nn hi0]; exact hpos, rfl, hfr, hf5, fun _ i a1 a2 => ?_⟩
      rw [← hqe] at a1 a2 ⊢
      exact hag i (by omega) a2
    exact z_zret C0 Wd hret hlk (by decide) hRF dX5_readForm_97
  have lp18 : ∀ (d18 k18 : Nat) (hk18 : (k18 : Int) + d18 = (q.2.2.length : Int)) (M2 : zMem) (hi0 : 0 ≤ (zfs T n (ztx q) k18 x1)) (hpos : M2 375 5 = (zfs T n (ztx q) k18 x1)) (hcn : M2 w 2 = zct q k18) (hfr : ∀ i, i ≠ 375 → i ≠ w → i ≠ w + 1 → M2 i = zM0 i) (hf5 : ∀ j, j ≠ 5 → M2 375 j = zM0 375 j) (hag : ∀ i : Nat, i < k18 → (ztx q (i : Int) = 35 ∨ ztx q (i : Int) = 37) → M2 (w + 1) (zct q i) = znv T n (ztx q (i : Int)) (zfs T n (ztx q) i x1)) (H : Heap) (locs : List Loc) (ls : Array Slot) (Wd : zW g (zA (0, 398, zX) ad s.heap.size) s.heap (0, 398, zX) ad M2 (zu zF0 w 0 f) H locs) (hl : lv_has ls 7 [(0, .ref (ad 375)), (1, .ref (g.2.2.2 f)), (2, .int (zI x1)), (3, .ref (ad w)), (4, .int (zI (k18 : Int)))]), W p l e (zrm 4 0 0) s m args below meth c H locs 0 0 (zMQ below g (0, 398, zX) ad (zPi (fun r M' F' => zRF T n f x1 w zM0 zF0 r M' F')) args s 0 0) (F0 m 18 ls []) := by
    intro d18
    induction d18 with
    | zero =>
      intro k18 hk18 M2 hi0 hpos hcn hfr hf5 hag H locs ls Wd hl
      have hbd := zfs_bd (T := T) (n := n) (f := ztx q) k18 (q := x1) (by rw [zps_nn (by omega)]; omega) (by rw [zps_nn (by omega)]; omega)
      rw [zps_nn (by omega), zps_nn hi0] at hbd
      have hC9 := zCS_fr hC hcw hfr hf5
      have hcb := zct_bd hq (i := k18) (by omega)
      refine z_iload C0 hl 4 rfl dX5_readForm_18 ?_
      refine z_aload_n C0 hl 1 rfl dX5_readForm_20 ?_
      refine z_getON C0 Wd (zc_KOi C0 hf0 hf1).2.2 (zc_nf C0 (q := ("DrumWarren$CommandReader", 64, "DrumWarren$CommandKind", "form", "Ljava/lang/String;", "DrumWarren")) (List.mem_of_getElem? (i := 1) rfl)) dX5_readForm_21 ?_
      refine z_re hq1 ?_
      refine z_invO (As := []) (rest := [.int (zI (k18 : Int))]) C0 Wd (ct_J0_length_8abf5_c l g (0, 398, zX) zN396 zN397 ad M2 (zu zF0 w 0 f) q hq) kv_J0_length_8abf5 (zrecvO C0 Wd (zc_x C0 hq).1) zk_1562 rfl hl.1 rfl (Nat.le_of_ble_eq_true rfl) (by decide) (by decide) dX5_readForm_24 (z_kki (fun r1 zMr1 zFr1 H locs hrr1 hp Wd => ?_))
      obtain ⟨rfl, rfl, rfl⟩ := hp
      refine z_icmp_ge C0 (tgt := 96) (zR_mk (by omega) (by omega)) hrr1 dX5_readForm_27 (by decide) (fun c3 => ?_) (fun c3 => ?_)
      · skip
        first | exact aft18 k18 (by omega) M2 hi0 hpos hcn hfr hf5 hag (by first | assumption | omega) _ _ _ Wd (lv_sub hl [0, 1, 2, 3, 4] rfl) | (exfalso; omega)
      · skip
        exfalso; omega
    | succ d18 ih18 =>
      intro k18 hk18 M2 hi0 hpos hcn hfr hf5 hag H locs ls Wd hl
      have hbd := zfs_bd (T := T) (n := n) (f := ztx q) k18 (q := x1) (by rw [zps_nn (by omega)]; omega) (by rw [zps_nn (by omega)]; omega)
      rw [zps_nn (by omega), zps_nn hi0] at hbd
      have hC9 := zCS_fr hC hcw hfr hf5
      have hcb := zct_bd hq (i := k18) (by omega)
      refine z_iload C0 hl 4 rfl dX5_readForm_18 ?_
      refine z_aload_n C0 hl 1 rfl dX5_readForm_20 ?_
      refine z_getON C0 Wd (zc_KOi C0 hf0 hf1).2.2 (zc_nf C0 (q := ("DrumWarren$CommandReader", 64, "DrumWarren$CommandKind", "form", "Ljava/lang/String;", "DrumWarren")) (List.mem_of_getElem? (i := 1) rfl)) dX5_readForm_21 ?_
      refine z_re hq1 ?_
      refine z_invO (As := []) (rest := [.int (zI (k18 : Int))]) C0 Wd (ct_J0_length_8abf5_c l g (0, 398, zX) zN396 zN397 ad M2 (zu zF0 w 0 f) q hq) kv_J0_length_8abf5 (zrecvO C0 Wd (zc_x C0 hq).1) zk_1562 rfl hl.1 rfl (Nat.le_of_ble_eq_true rfl) (by decide) (by decide) dX5_readForm_24 (z_kki (fun r4 zMr4 zFr4 H locs hrr4 hp Wd => ?_))
      obtain ⟨rfl, rfl, rfl⟩ := hp
      refine z_icmp_ge C0 (tgt := 96) (zR_mk (by omega) (by omega)) hrr4 dX5_readForm_27 (by decide) (fun c6 => ?_) (fun c6 => ?_)
      · skip
        first | exact aft18 k18 (by omega) M2 hi0 hpos hcn hfr hf5 hag (by first | assumption | omega) _ _ _ Wd (lv_sub hl [0, 1, 2, 3, 4] rfl) | (exfalso; omega)
      · skip
        refine z_aload_n C0 hl 1 rfl dX5_readForm_30 ?_
        refine z_getON C0 Wd (zc_KOi C0 hf0 hf1).2.2 (zc_nf C0 (q := ("DrumWarren$CommandReader", 64, "DrumWarren$CommandKind", "form", "Ljava/lang/String;", "DrumWarren")) (List.mem_of_getElem? (i := 1) rfl)) dX5_readForm_31 ?_
        refine z_re hq1 ?_
        refine z_iload C0 hl 4 rfl dX5_readForm_34 ?_
        refine z_invO (As := [.int (zI (k18 : Int))]) (rest := []) C0 Wd (ct_J0_charAt_5068e_c l g (0, 398, zX) zN396 zN397 ad M2 (zu zF0 w 0 f) q hq (k18 : Int) (zR_mk (by omega) (by omega)) (by omega)) kv_J0_charAt_5068e (zrecvO C0 Wd (zc_x C0 hq).1) zk_1563 rfl hl.1 rfl (Nat.le_of_ble_eq_true rfl) (by decide) (by decide) dX5_readForm_36 (z_kki (fun r7 zMr7 zFr7 H locs hrr7 hp Wd => ?_))
        obtain ⟨rfl, rfl, rfl⟩ := hp
        refine z_istore C0 hl [(5, .int (zI (ztx q (k18 : Int)))), (0, .ref (ad 375)), (1, .ref (g.2.2.2 f)), (2, .int (zI x1)), (3, .ref (ad w)), (4, .int (zI (k18 : Int)))] (by decide) rfl dX5_readForm_39 (fun ls hl => ?_)
        refine z_iload C0 hl 0 rfl dX5_readForm_41 ?_
        refine z_bipush C0 dX5_readForm_43 (by decide) ?_
        refine z_icmp_eq C0 (tgt := 55) hrr7 (zR_mk (by decide) (by decide)) dX5_readForm_45 (by decide) (fun c9 => ?_) (fun c9 => ?_)
        · skip
          refine z_aload_n C0 hl 1 rfl dX5_readForm_55 ?_
          refine z_iload C0 hl 0 rfl dX5_readForm_56 ?_
          refine z_bipush C0 dX5_readForm_58 (by decide) ?_
          refine z_icmp_ne C0 (tgt := 67) hrr7 (zR_mk (by decide) (by decide)) dX5_readForm_60 (by decide) (fun c10 => ?_) (fun c10 => absurd c10 (by omega))
          refine z_iconst C0 dX5_readForm_67 ?_
          refine z_aload_n C0 hl 4 rfl dX5_readForm_68 ?_
          refine z_invVi (As := [.int (zI 0), .ref (ad w)]) (rest := []) C0 Wd (ct_X5_readNumber_0 l g zX ad M2 (zu zF0 w 0 f) T n (zfs T n (ztx q) k18 x1) w (zct q k18) hcw 0 (zR_mk (by decide) (by decide)) hC9 hT ⟨hpos, by omega, by omega⟩ ⟨hcn, by omega, hcb.2 (by omega)⟩ (by omega)) kv_X5_readNumber zN375 (zE_3 zK375) rfl zk_1564 rfl hl.1 rfl (Nat.le_of_ble_eq_true rfl) (by decide) (by decide) dX5_readForm_69 (fun r11 zMr11 zFr11 H locs hrr11 hp Wd => ?_)
          rcases hp with ⟨hr11_0_0, rfl, rfl, rfl⟩ | ⟨hr11_1_0, rfl, rfl, rfl⟩
          · skip
            refine z_goto C0 (tgt := 81) dX5_readForm_72 (by decide) ?_
            refine z_istore C0 hl [(6, .int (zI 0)), (5, .int (zI (ztx q (k18 : Int)))), (0, .ref (ad 375)), (1, .ref (g.2.2.2 f)), (2, .int (zI x1)), (3, .ref (ad w)), (4, .int (zI (k18 : Int)))] (by decide) rfl dX5_readForm_81 (fun ls hl => ?_)
            refine z_iload C0 hl 0 rfl dX5_readForm_83 ?_
            refine z_if_ne C0 (tgt := 90) (zR_mk (by decide) (by decide)) dX5_readForm_85 (by decide) (fun h => absurd h (by decide)) (fun _ => ?_)
            refine z_iconst C0 dX5_readForm_88 ?_
            have hRF : zRF T n f x1 w zM0 zF0 0 M2 (zu zF0 w 0 f) := by
              have hst9 : zfs T n (ztx q) (k18 + 1) x1 = zst T n 35 (zfs T n (ztx q) k18 x1) := by show zst T n (ztx q (k18 : Int)) (zfs T n (ztx q) k18 x1) = _; rw [show ztx q (k18 : Int) = 35 by omega]
              have hng : zst T n 35 (zfs T n (ztx q) k18 x1) < 0 := by omega
              have hps := zst_neg (by omega) hng
              have hfin : zfs T n (ztx q) q.2.2.length x1 = zfs T n (ztx q) (k18 + 1) x1 := zfs_stuck (by rw [hst9]; exact hng) q.2.2.length (show k18 + 1 ≤ q.2.2.length by omega)
              rw [hal, hst9] at hfin
              refine ⟨by rw [hfin]; exact zb_f (by omega), by rw [hfin, hps]; exact hpos, rfl, hfr, hf5, fun a0 => ?_⟩
              rw [hfin] at a0
              omega
            exact z_zret C0 Wd hret hlk (by decide) hRF dX5_readForm_89
          · skip
            refine z_goto C0 (tgt := 81) dX5_readForm_72 (by decide) ?_
            refine z_istore C0 hl [(6, .int (zI 1)), (5, .int (zI (ztx q (k18 : Int)))), (0, .ref (ad 375)), (1, .ref (g.2.2.2 f)), (2, .int (zI x1)), (3, .ref (ad w)), (4, .int (zI (k18 : Int)))] (by decide) rfl dX5_readForm_81 (fun ls hl => ?_)
            refine z_iload C0 hl 0 rfl dX5_readForm_83 ?_
            refine z_if_ne C0 (tgt := 90) (zR_mk (by decide) (by decide)) dX5_readForm_85 (by decide) (fun _ => ?_) (fun h => absurd h (by decide))
            refine z_iinc C0 hl 6 (t := (k18 : Int)) (u := ((k18 : Int) + 1)) rfl (by omega) [(4, .int (zI ((k18 : Int) + 1))), (6, .int (zI 1)), (5, .int (zI (ztx q (k18 : Int)))), (0, .ref (ad 375)), (1, .ref (g.2.2.2 f)), (2, .int (zI x1)), (3, .ref (ad w))] (by decide) rfl dX5_readForm_90 (fun ls hl => ?_)
            refine z_goto C0 (tgt := 18) dX5_readForm_93 (by decide) ?_
            have hs9 : ztx q (k18 : Int) = 35 := by omega
            have hst9 : zfs T n (ztx q) (k18 + 1) x1 = zst T n 35 (zfs T n (ztx q) k18 x1) := by show zst T n (ztx q (k18 : Int)) (zfs T n (ztx q) k18 x1) = _; rw [hs9]
            have hct9 : zct q (k18 + 1) = zct q k18 + 1 := by show zct q k18 + (if ztx q (k18 : Int) = 35 ∨ ztx q (k18 : Int) = 37 then 1 else 0) = _; rw [if_pos (by omega)]
            skip
            exact ih18 (k18 + 1) (by omega) (zu (zu (zu M2 375 5 (zst T n 35 (zfs T n (ztx q) k18 x1))) (w + 1) (zct q k18) (znv T n 35 (zfs T n (ztx q) k18 x1))) w 2 ((zct q k18) + 1)) (by rw [hst9]; omega) (by rw [hst9]; exact (zu_ne (by omega)).trans ((zu_ne (by omega)).trans (zu_same _ _ _ _))) (by rw [hct9]; exact zu_same _ _ _ _) (fun i a1 a2 a3 => (zu_row (by omega)).trans ((zu_row (by omega)).trans ((zu_row (by omega)).trans (hfr i a1 a2 a3)))) (fun j a1 => (zu_ne (by omega)).trans ((zu_ne (by omega)).trans ((zu_ne (by omega)).trans (hf5 j a1)))) (fun i a1 a2 => by
                by_cases e9 : i = k18
                · subst e9
                  rw [hs9]
                  exact (zu_ne (by omega)).trans (zu_same _ _ _ _)
                · have z9 := zct_in (show i < k18 by omega) a2
                  exact (zu_ne (by omega)).trans ((zu_ne (by omega)).trans ((zu_ne (by omega)).trans (hag i (by omega) a2)))) _ _ _ Wd (lv_sub hl [3, 4, 5, 6, 0] rfl)
        · skip
          refine z_iload C0 hl 0 rfl dX5_readForm_48 ?_
          refine z_bipush C0 dX5_readForm_50 (by decide) ?_
          refine z_icmp_ne C0 (tgt := 75) hrr7 (zR_mk (by decide) (by decide)) dX5_readForm_52 (by decide) (fun c15 => ?_) (fun c15 => ?_)
          · skip
            refine z_aload_n C0 hl 1 rfl dX5_readForm_75 ?_
            refine z_iload C0 hl 0 rfl dX5_readForm_76 ?_
            refine z_invVi (As := [.int (zI (ztx q (k18 : Int)))]) (rest := []) C0 Wd (ct_X5_readSign l g zX ad M2 (zu zF0 w 0 f) T n (zfs T n (ztx q) k18 x1) (ztx q (k18 : Int)) hrr7 hC9 hT ⟨hpos, by omega, by omega⟩) kv_X5_readSign zN375 (zE_3 zK375) rfl zk_1580 rfl hl.1 rfl (Nat.le_of_ble_eq_true rfl) (by decide) (by decide) dX5_readForm_78 (fun r16 zMr16 zFr16 H locs hrr16 hp Wd => ?_)
            rcases hp with ⟨hr16_0_0, rfl, rfl, rfl⟩ | ⟨hr16_1_0, rfl, rfl, rfl⟩
            · skip
              refine z_istore C0 hl [(6, .int (zI 0)), (5, .int (zI (ztx q (k18 : Int)))), (0, .ref (ad 375)), (1, .ref (g.2.2.2 f)), (2, .int (zI x1)), (3, .ref (ad w)), (4, .int (zI (k18 : Int)))] (by decide) rfl dX5_readForm_81 (fun ls hl => ?_)
              refine z_iload C0 hl 0 rfl dX5_readForm_83 ?_
              refine z_if_ne C0 (tgt := 90) (zR_mk (by decide) (by decide)) dX5_readForm_85 (by decide) (fun h => absurd h (by decide)) (fun _ => ?_)
              refine z_iconst C0 dX5_readForm_88 ?_
              have hRF : zRF T n f x1 w zM0 zF0 0 M2 (zu zF0 w 0 f) := by
                have hst9 : zfs T n (ztx q) (k18 + 1) x1 = zst T n (ztx q (k18 : Int)) (zfs T n (ztx q) k18 x1) := rfl
                have hng : zst T n (ztx q (k18 : Int)) (zfs T n (ztx q) k18 x1) < 0 := by rw [zst_s0 (by omega) (by omega) (by omega) (by omega)]; omega
                have hps := zst_neg (by omega) hng
                have hfin : zfs T n (ztx q) q.2.2.length x1 = zfs T n (ztx q) (k18 + 1) x1 := zfs_stuck (by rw [hst9]; exact hng) q.2.2.length (show k18 + 1 ≤ q.2.2.length by omega)
                rw [hal, hst9] at hfin
                refine ⟨by rw [hfin]; exact zb_f (by omega), by rw [hfin, hps]; exact hpos, rfl, hfr, hf5, fun a0 => ?_⟩
                rw [hfin] at a0
                omega
              exact z_zret C0 Wd hret hlk (by decide) hRF dX5_readForm_89
            · skip
              refine z_istore C0 hl [(6, .int (zI 1)), (5, .int (zI (ztx q (k18 : Int)))), (0, .ref (ad 375)), (1, .ref (g.2.2.2 f)), (2, .int (zI x1)), (3, .ref (ad w)), (4, .int (zI (k18 : Int)))] (by decide) rfl dX5_readForm_81 (fun ls hl => ?_)
              refine z_iload C0 hl 0 rfl dX5_readForm_83 ?_
              refine z_if_ne C0 (tgt := 90) (zR_mk (by decide) (by decide)) dX5_readForm_85 (by decide) (fun _ => ?_) (fun h => absurd h (by decide))
              refine z_iinc C0 hl 6 (t := (k18 : Int)) (u := ((k18 : Int) + 1)) rfl (by omega) [(4, .int (zI ((k18 : Int) + 1))), (6, .int (zI 1)), (5, .int (zI (ztx q (k18 : Int)))), (0, .ref (ad 375)), (1, .ref (g.2.2.2 f)), (2, .int (zI x1)), (3, .ref (ad w))] (by decide) rfl dX5_readForm_90 (fun ls hl => ?_)
              refine z_goto C0 (tgt := 18) dX5_readForm_93 (by decide) ?_
              have hst9 : zfs T n (ztx q) (k18 + 1) x1 = (zfs T n (ztx q) k18 x1) + 1 := by show zst T n (ztx q (k18 : Int)) (zfs T n (ztx q) k18 x1) = _; rw [zst_s1 (by omega) (by omega) (by omega) (by omega)]
              have hct9 : zct q (k18 + 1) = zct q k18 := by show zct q k18 + (if ztx q (k18 : Int) = 35 ∨ ztx q (k18 : Int) = 37 then 1 else 0) = _; rw [if_neg (by omega)]; omega
              skip
              exact ih18 (k18 + 1) (by omega) (zu M2 375 5 ((zfs T n (ztx q) k18 x1) + 1)) (by rw [hst9]; omega) (by rw [hst9]; exact zu_same _ _ _ _) (by rw [hct9]; exact (zu_ne (by omega)).trans hcn) (fun i a1 a2 a3 => (zu_row (by omega)).trans (hfr i a1 a2 a3)) (fun j a1 => (zu_ne (by omega)).trans (hf5 j a1)) (fun i a1 a2 => by
                  by_cases e9 : i = k18
                  · subst e9
                    omega
                  · exact (zu_ne (by omega)).trans (hag i (by omega) a2)) _ _ _ Wd (lv_sub hl [3, 4, 5, 6, 0] rfl)
          · skip
            refine z_aload_n C0 hl 1 rfl dX5_readForm_55 ?_
            refine z_iload C0 hl 0 rfl dX5_readForm_56 ?_
            refine z_bipush C0 dX5_readForm_58 (by decide) ?_
            refine z_icmp_ne C0 (tgt := 67) hrr7 (zR_mk (by decide) (by decide)) dX5_readForm_60 (by decide) (fun c20 => absurd c20 (by omega)) (fun c20 => ?_)
            refine z_iconst C0 dX5_readForm_63 ?_
            refine z_goto C0 (tgt := 68) dX5_readForm_64 (by decide) ?_
            refine z_aload_n C0 hl 4 rfl dX5_readForm_68 ?_
            refine z_invVi (As := [.int (zI 1), .ref (ad w)]) (rest := []) C0 Wd (ct_X5_readNumber_1 l g zX ad M2 (zu zF0 w 0 f) T n (zfs T n (ztx q) k18 x1) w (zct q k18) hcw 1 (zR_mk (by decide) (by decide)) hC9 hT ⟨hpos, by omega, by omega⟩ ⟨hcn, by omega, hcb.2 (by omega)⟩ (by omega)) kv_X5_readNumber zN375 (zE_3 zK375) rfl zk_1564 rfl hl.1 rfl (Nat.le_of_ble_eq_true rfl) (by decide) (by decide) dX5_readForm_69 (fun r21 zMr21 zFr21 H locs hrr21 hp Wd => ?_)
            rcases hp with ⟨hr21_0_0, rfl, rfl, rfl⟩ | ⟨hr21_1_0, rfl, rfl, rfl⟩
            · skip
              refine z_goto C0 (tgt := 81) dX5_readForm_72 (by decide) ?_
              refine z_istore C0 hl [(6, .int (zI 0)), (5, .int (zI (ztx q (k18 : Int)))), (0, .ref (ad 375)), (1, .ref (g.2.2.2 f)), (2, .int (zI x1)), (3, .ref (ad w)), (4, .int (zI (k18 : Int)))] (by decide) rfl dX5_readForm_81 (fun ls hl => ?_)
              refine z_iload C0 hl 0 rfl dX5_readForm_83 ?_
              refine z_if_ne C0 (tgt := 90) (zR_mk (by decide) (by decide)) dX5_readForm_85 (by decide) (fun h => absurd h (by decide)) (fun _ => ?_)
              refine z_iconst C0 dX5_readForm_88 ?_
              have hRF : zRF T n f x1 w zM0 zF0 0 M2 (zu zF0 w 0 f) := by
                have hst9 : zfs T n (ztx q) (k18 + 1) x1 = zst T n 37 (zfs T n (ztx q) k18 x1) := by show zst T n (ztx q (k18 : Int)) (zfs T n (ztx q) k18 x1) = _; rw [show ztx q (k18 : Int) = 37 by omega]
                have hng : zst T n 37 (zfs T n (ztx q) k18 x1) < 0 := by omega
                have hps := zst_neg (by omega) hng
                have hfin : zfs T n (ztx q) q.2.2.length x1 = zfs T n (ztx q) (k18 + 1) x1 := zfs_stuck (by rw [hst9]; exact hng) q.2.2.length (show k18 + 1 ≤ q.2.2.length by omega)
                rw [hal, hst9] at hfin
                refine ⟨by rw [hfin]; exact zb_f (by omega), by rw [hfin, hps]; exact hpos, rfl, hfr, hf5, fun a0 => ?_⟩
                rw [hfin] at a0
                omega
              exact z_zret C0 Wd hret hlk (by decide) hRF dX5_readForm_89
            · skip
              refine z_goto C0 (tgt := 81) dX5_readForm_72 (by decide) ?_
              refine z_istore C0 hl [(6, .int (zI 1)), (5, .int (zI (ztx q (k18 : Int)))), (0, .ref (ad 375)), (1, .ref (g.2.2.2 f)), (2, .int (zI x1)), (3, .ref (ad w)), (4, .int (zI (k18 : Int)))] (by decide) rfl dX5_readForm_81 (fun ls hl => ?_)
              refine z_iload C0 hl 0 rfl dX5_readForm_83 ?_
              refine z_if_ne C0 (tgt := 90) (zR_mk (by decide) (by decide)) dX5_readForm_85 (by decide) (fun _ => ?_) (fun h => absurd h (by decide))
              refine z_iinc C0 hl 6 (t := (k18 : Int)) (u := ((k18 : Int) + 1)) rfl (by omega) [(4, .int (zI ((k18 : Int) + 1))), (6, .int (zI 1)), (5, .int (zI (ztx q (k18 : Int)))), (0, .ref (ad 375)), (1, .ref (g.2.2.2 f)), (2, .int (zI x1)), (3, .ref (ad w))] (by decide) rfl dX5_readForm_90 (fun ls hl => ?_)
              refine z_goto C0 (tgt := 18) dX5_readForm_93 (by decide) ?_
              have hs9 : ztx q (k18 : Int) = 37 := by omega
              have hst9 : zfs T n (ztx q) (k18 + 1) x1 = zst T n 37 (zfs T n (ztx q) k18 x1) := by show zst T n (ztx q (k18 : Int)) (zfs T n (ztx q) k18 x1) = _; rw [hs9]
              have hct9 : zct q (k18 + 1) = zct q k18 + 1 := by show zct q k18 + (if ztx q (k18 : Int) = 35 ∨ ztx q (k18 : Int) = 37 then 1 else 0) = _; rw [if_pos (by omega)]
              skip
              exact ih18 (k18 + 1) (by omega) (zu (zu (zu M2 375 5 (zst T n 37 (zfs T n (ztx q) k18 x1))) (w + 1) (zct q k18) (znv T n 37 (zfs T n (ztx q) k18 x1))) w 2 ((zct q k18) + 1)) (by rw [hst9]; omega) (by rw [hst9]; exact (zu_ne (by omega)).trans ((zu_ne (by omega)).trans (zu_same _ _ _ _))) (by rw [hct9]; exact zu_same _ _ _ _) (fun i a1 a2 a3 => (zu_row (by omega)).trans ((zu_row (by omega)).trans ((zu_row (by omega)).trans (hfr i a1 a2 a3)))) (fun j a1 => (zu_ne (by omega)).trans ((zu_ne (by omega)).trans ((zu_ne (by omega)).trans (hf5 j a1)))) (fun i a1 a2 => by
                  by_cases e9 : i = k18
                  · subst e9
                    rw [hs9]
                    exact (zu_ne (by omega)).trans (zu_same _ _ _ _)
                  · have z9 := zct_in (show i < k18 by omega) a2
                    exact (zu_ne (by omega)).trans ((zu_ne (by omega)).trans ((zu_ne (by omega)).trans (hag i (by omega) a2)))) _ _ _ Wd (lv_sub hl [3, 4, 5, 6, 0] rfl)
  exact lp18 ((q.2.2.length : Int)).toNat 0 (by omega) (zu (zu zM0 w 2 0) 375 5 x1) ha.1 (zu_same _ _ _ _) ((zu_ne (by omega)).trans (zu_same _ _ _ _)) (fun i a1 a2 a3 => (zu_row (by omega)).trans (zu_row (by omega))) (fun j a1 => (zu_ne (by omega)).trans (zu_ne (by omega))) (fun i a1 _ => absurd a1 (Nat.not_lt_zero i)) _ _ _ Wd (lv_sub hl [1, 2, 3, 4, 0] rfl)
