/-! the model: a tick -/
theorem kv_X12_arrives : zKV yX12_arrives cX12_arrives 7 (some .boolean) "DrumWarrenModel" 1 := ⟨zk_1947, zk_1946, zk_54, zk_80, by decide, by decide, by decide +kernel⟩
set_option maxHeartbeats 4000000 in
set_option maxRecDepth 100000 in
theorem ct_X12_arrives (l : Launch) (g : zG) (ad : Int → Nat) (zM0 zF0 : zMem) (zt : Int) (x0 : Int) (hx0 : zR x0) (hV : zIV zt (zM0 399)) (ht : zt ≤ 100000000) (hp : 0 ≤ x0 ∧ x0 < zM0 399 2) : zMt l yX12_arrives cX12_arrives 7 (some .boolean) 3 0 0 g 410 ad [.ref (ad 398), .int (zI x0)] zM0 zF0 (zPi (fun r M' F' => (∃ w : Int → Int, zb (zAr x0 (zM0 399) = true) = r ∧ (zrow zM0 404 w) = M' ∧ zF0 = F'))) := by
  refine zMt.of "DrumWarrenModel" rfl (by decide) (Nat.le_of_ble_eq_true rfl) (fun {p e s m args below meth c ls} C0 Wd hl hret hlk hin => ?_)
  have hl : lv_has ls 7 [(0, .ref (ad 398)), (1, .int (zI x0))] := hl
  obtain ⟨hc0, hc1, hc2, hcs, hT, hH, hM, hR⟩ := id hV
  obtain ⟨m0, m1, m2, m3, -, m5, -, m7, m8⟩ := hM x0 hp.1 hp.2
  have hm1 := (hH _ m1.1 m1.2).1
  have hm2 := (hH _ m2.1 m2.2).1
  replace Wd : zW g _ s.heap 410 ad (zrow zM0 404 (zM0 404)) _ s.heap [] := (by rw [zrow_eta]; exact Wd)
  refine z_aload_n C0 hl 0 rfl dX12_arrives_0 ?_
  refine z_iload_n C0 hl 1 rfl dX12_arrives_1 ?_
  refine z_iconst C0 dX12_arrives_2 ?_
  refine z_invVi (As := [.int (zI x0), .int (zI 2)]) (rest := []) C0 Wd (ct_X12_of l g ad (zrow zM0 404 (zM0 404)) zF0 x0 hx0 2 (zR_mk (by decide) (by decide)) (by omega)) kv_X12_of zN398 (zE_9 zK398) rfl zk_1801 rfl hl.1 rfl (Nat.le_of_ble_eq_true rfl) (by decide) (by decide) dX12_arrives_3 (fun r1 zMr1 zFr1 H locs hrr1 hp Wd => ?_)
  obtain ⟨rfl, rfl, rfl⟩ := hp
  refine z_top (show zI ((zrow zM0 404 (zM0 404)) 399 (96 + 47 * x0 + 2)) = zI (zM0 399 (96 + 47 * x0 + 2)) from rfl) ?_
  replace hrr1 : zR (zM0 399 (96 + 47 * x0 + 2)) := hrr1
  refine z_istore_n C0 hl [(2, .int (zI (zM0 399 (96 + 47 * x0 + 2)))), (0, .ref (ad 398)), (1, .int (zI x0))] (by decide) rfl dX12_arrives_6 (fun ls hl => ?_)
  refine z_aload_n C0 hl 1 rfl dX12_arrives_7 ?_
  refine z_iload_n C0 hl 0 rfl dX12_arrives_8 ?_
  refine z_iconst C0 dX12_arrives_9 ?_
  refine z_invVi (As := [.int (zI (zM0 399 (96 + 47 * x0 + 2))), .int (zI 0)]) (rest := []) C0 Wd (ct_X12_hare l g ad (zrow zM0 404 (zM0 404)) zF0 (zM0 399 (96 + 47 * x0 + 2)) hrr1 0 (zR_mk (by decide) (by decide)) (by omega)) kv_X12_hare zN398 (zE_9 zK398) rfl zk_1805 rfl hl.1 rfl (Nat.le_of_ble_eq_true rfl) (by decide) (by decide) dX12_arrives_10 (fun r3 zMr3 zFr3 H locs hrr3 hp Wd => ?_)
  obtain ⟨rfl, rfl, rfl⟩ := hp
  refine z_top (show zI ((zrow zM0 404 (zM0 404)) 399 (72 + 4 * (zM0 399 (96 + 47 * x0 + 2)) + 0)) = zI (zM0 399 (72 + 4 * (zM0 399 (96 + 47 * x0 + 2)) + 0)) from rfl) ?_
  replace hrr3 : zR (zM0 399 (72 + 4 * (zM0 399 (96 + 47 * x0 + 2)) + 0)) := hrr3
  refine z_istore_n C0 hl [(3, .int (zI (zM0 399 (72 + 4 * (zM0 399 (96 + 47 * x0 + 2)) + 0)))), (2, .int (zI (zM0 399 (96 + 47 * x0 + 2)))), (0, .ref (ad 398)), (1, .int (zI x0))] (by decide) rfl dX12_arrives_13 (fun ls hl => ?_)
  refine z_aload_n C0 hl 2 rfl dX12_arrives_14 ?_
  refine z_aload_n C0 hl 2 rfl dX12_arrives_15 ?_
  refine z_iload_n C0 hl 3 rfl dX12_arrives_16 ?_
  refine z_invVi (As := [.int (zI x0)]) (rest := [.ref (ad 398)]) C0 Wd (ct_X12_homeOf l g ad (zrow zM0 404 (zM0 404)) zF0 x0 hx0 (by omega) (by show 0 ≤ (zM0 399 (96 + 47 * x0 + 1)) ∧ (zM0 399 (96 + 47 * x0 + 1)) < 6; first | omega | assumption)) kv_X12_homeOf zN398 (zE_9 zK398) rfl zk_1928 rfl hl.1 rfl (Nat.le_of_ble_eq_true rfl) (by decide) (by decide) dX12_arrives_17 (fun r5 zMr5 zFr5 H locs hrr5 hp Wd => ?_)
  obtain ⟨rfl, rfl, rfl⟩ := hp
  refine z_top (show zI ((zrow zM0 404 (zM0 404)) 399 (72 + 4 * ((zrow zM0 404 (zM0 404)) 399 (96 + 47 * x0 + 1)) + 0)) = zI (zM0 399 (72 + 4 * (zM0 399 (96 + 47 * x0 + 1)) + 0)) from rfl) ?_
  replace hrr5 : zR (zM0 399 (72 + 4 * (zM0 399 (96 + 47 * x0 + 1)) + 0)) := hrr5
  refine z_invVv (As := [.int (zI (zM0 399 (72 + 4 * (zM0 399 (96 + 47 * x0 + 1)) + 0)))]) (rest := []) C0 Wd (ct_X12_finds l g ad (zrow zM0 404 (zM0 404)) zF0 (zM0 399 (72 + 4 * (zM0 399 (96 + 47 * x0 + 1)) + 0)) hrr5 (fun i h0 h1 => hT i h0 h1)) kv_X12_finds zN398 (zE_9 zK398) rfl zk_1741 rfl hl.1 rfl (Nat.le_of_ble_eq_true rfl) (by decide) (by decide) dX12_arrives_20 (fun zMr7 zFr7 H locs hp Wd => ?_)
  rcases hp with ⟨r_r7, hr7_0_0, rfl, rfl⟩
  · skip
    replace Wd := zW.mem Wd (show _ = (zrow zM0 404 r_r7) from (zrow_twice zM0 404 (zM0 404) r_r7))
    replace hr7_0_0 : ∀ j, 0 ≤ j → j < 8 → r_r7 j = zBF (zM0 399) (zM0 399 (72 + 4 * (zM0 399 (96 + 47 * x0 + 1)) + 0)) j := hr7_0_0
    have jn50 : ∀ (u4 : Int) (hu4 : u4 = zb ((zM0 399 (72 + 4 * (zM0 399 (96 + 47 * x0 + 2)) + 1)) = 1 ∧ zBF (zM0 399) (zhm (zM0 399) x0) (zrc (zM0 399) x0) < 1000)) (hu5 : 0 ≤ u4 ∧ u4 ≤ 1) (H : Heap) (locs : List Loc) (ls : Array Slot) (Wd : zW g (zA 410 ad s.heap.size) s.heap 410 ad (zrow zM0 404 r_r7) zF0 H locs) (hl : lv_has ls 7 [(0, .ref (ad 398)), (1, .int (zI x0)), (2, .int (zI (zM0 399 (96 + 47 * x0 + 2)))), (3, .int (zI (zM0 399 (72 + 4 * (zM0 399 (96 + 47 * x0 + 2)) + 0))))]), W p l e (zrm 3 0 0) s m args below meth c H locs 0 0 (zMQ below g 410 ad (zPi (fun r M' F' => (∃ w : Int → Int, zb (zAr x0 (zM0 399) = true) = r ∧ (zrow zM0 404 w) = M' ∧ zF0 = F'))) args s 0 0) (F0 m 50 ls [.int (zI u4)]) := by
      intro u4 hu4 hu5 H locs ls Wd hl
      refine z_istore C0 hl [(4, .int (zI u4)), (0, .ref (ad 398)), (1, .int (zI x0)), (2, .int (zI (zM0 399 (96 + 47 * x0 + 2)))), (3, .int (zI (zM0 399 (72 + 4 * (zM0 399 (96 + 47 * x0 + 2)) + 0))))] (by decide) rfl dX12_arrives_50 (fun ls hl => ?_)
      refine z_iconst C0 dX12_arrives_52 ?_
      refine z_istore C0 hl [(5, .int (zI 0)), (4, .int (zI u4)), (0, .ref (ad 398)), (1, .int (zI x0)), (2, .int (zI (zM0 399 (96 + 47 * x0 + 2)))), (3, .int (zI (zM0 399 (72 + 4 * (zM0 399 (96 + 47 * x0 + 2)) + 0))))] (by decide) rfl dX12_arrives_53 (fun ls hl => ?_)
      have aft55 : ∀ (k55 : Nat) (hk55 : (k55 : Int) ≤ 5) (u4 : Int) (hu : u4 = zb (((zM0 399 (72 + 4 * (zM0 399 (96 + 47 * x0 + 2)) + 1)) = 1 ∧ zBF (zM0 399) (zhm (zM0 399) x0) (zrc (zM0 399) x0) < 1000) ∧ zOkB (zM0 399) x0 k55 = true)) (hu6 : 0 ≤ u4 ∧ u4 ≤ 1) (hx : (k55 : Int) = 5 ∨ u4 = 0) (H : Heap) (locs : List Loc) (ls : Array Slot) (Wd : zW g (zA 410 ad s.heap.size) s.heap 410 ad (zrow zM0 404 r_r7) zF0 H locs) (hl : lv_has ls 7 [(0, .ref (ad 398)), (1, .int (zI x0)), (2, .int (zI (zM0 399 (96 + 47 * x0 + 2)))), (3, .int (zI (zM0 399 (72 + 4 * (zM0 399 (96 + 47 * x0 + 2)) + 0)))), (4, .int (zI u4)), (5, .int (zI (k55 : Int)))]), W p l e (zrm 3 0 0) s m args below meth c H locs 0 0 (zMQ below g 410 ad (zPi (fun r M' F' => (∃ w : Int → Int, zb (zAr x0 (zM0 399) = true) = r ∧ (zrow zM0 404 w) = M' ∧ zF0 = F'))) args s 0 0) (F0 m 134 ls []) := by
        intro k55 hk55 u4 hu hu6 hx H locs ls Wd hl
        replace hl : lv_has ls 7 [(0, .ref (ad 398)), (1, .int (zI x0)), (2, .int (zI (zM0 399 (96 + 47 * x0 + 2)))), (3, .int (zI (zM0 399 (72 + 4 * (zM0 399 (96 + 47 * x0 + 2)) + 0)))), (4, .int (zI u4))] := lv_sub hl [0, 1, 2, 3, 4] rfl
        refine z_iload C0 hl 4 rfl dX12_arrives_134 ?_
        exact z_zret C0 Wd hret hlk (by omega) ⟨_, zAr_end hu hx hk55, rfl, rfl⟩ dX12_arrives_136
      have lp55 : ∀ (d55 k55 : Nat) (hk55 : (k55 : Int) + d55 = 5) (u4 : Int) (hu : u4 = zb (((zM0 399 (72 + 4 * (zM0 399 (96 + 47 * x0 + 2)) + 1)) = 1 ∧ zBF (zM0 399) (zhm (zM0 399) x0) (zrc (zM0 399) x0) < 1000) ∧ zOkB (zM0 399) x0 k55 = true)) (hu6 : 0 ≤ u4 ∧ u4 ≤ 1) (H : Heap) (locs : List Loc) (ls : Array Slot) (Wd : zW g (zA 410 ad s.heap.size) s.heap 410 ad (zrow zM0 404 r_r7) zF0 H locs) (hl : lv_has ls 7 [(0, .ref (ad 398)), (1, .int (zI x0)), (2, .int (zI (zM0 399 (96 + 47 * x0 + 2)))), (3, .int (zI (zM0 399 (72 + 4 * (zM0 399 (96 + 47 * x0 + 2)) + 0)))), (4, .int (zI u4)), (5, .int (zI (k55 : Int)))]), W p l e (zrm 3 0 0) s m args below meth c H locs 0 0 (zMQ below g 410 ad (zPi (fun r M' F' => (∃ w : Int → Int, zb (zAr x0 (zM0 399) = true) = r ∧ (zrow zM0 404 w) = M' ∧ zF0 = F'))) args s 0 0) (F0 m 55 ls []) := by
        intro d55
        induction d55 with
        | zero =>
          intro k55 hk55 u4 hu hu6 H locs ls Wd hl
          refine z_iload C0 hl 5 rfl dX12_arrives_55 ?_
          refine z_iconst C0 dX12_arrives_57 ?_
          refine z_icmp_ge C0 (tgt := 134) (zR_mk (by omega) (by omega)) (zR_mk (by decide) (by decide)) dX12_arrives_58 (by decide) (fun c9 => ?_) (fun c9 => ?_)
          · skip
            first | exact aft55 k55 (by omega) u4 hu hu6 (by first | assumption | omega) _ _ _ Wd (lv_sub hl [0, 1, 2, 3, 4, 5] rfl) | (exfalso; omega)
          · skip
            refine z_iload C0 hl 4 rfl dX12_arrives_61 ?_
            refine z_if_eq C0 (tgt := 134) (zR_mk (by omega) (by omega)) dX12_arrives_63 (by decide) (fun c10 => ?_) (fun c10 => ?_)
            · skip
              first | exact aft55 k55 (by omega) u4 hu hu6 (by first | assumption | omega) _ _ _ Wd (lv_sub hl [0, 1, 2, 3, 4, 5] rfl) | (exfalso; omega)
            · skip
              exfalso; omega
        | succ d55 ih55 =>
          intro k55 hk55 u4 hu hu6 H locs ls Wd hl
          refine z_iload C0 hl 5 rfl dX12_arrives_55 ?_
          refine z_iconst C0 dX12_arrives_57 ?_
          refine z_icmp_ge C0 (tgt := 134) (zR_mk (by omega) (by omega)) (zR_mk (by decide) (by decide)) dX12_arrives_58 (by decide) (fun c11 => ?_) (fun c11 => ?_)
          · skip
            first | exact aft55 k55 (by omega) u4 hu hu6 (by first | assumption | omega) _ _ _ Wd (lv_sub hl [0, 1, 2, 3, 4, 5] rfl) | (exfalso; omega)
          · skip
            refine z_iload C0 hl 4 rfl dX12_arrives_61 ?_
            refine z_if_eq C0 (tgt := 134) (zR_mk (by omega) (by omega)) dX12_arrives_63 (by decide) (fun c12 => ?_) (fun c12 => ?_)
            · skip
              first | exact aft55 k55 (by omega) u4 hu hu6 (by first | assumption | omega) _ _ _ Wd (lv_sub hl [0, 1, 2, 3, 4, 5] rfl) | (exfalso; omega)
            · skip
              refine z_aload_n C0 hl 0 rfl dX12_arrives_66 ?_
              refine z_iload_n C0 hl 1 rfl dX12_arrives_67 ?_
              refine z_iconst C0 dX12_arrives_68 ?_
              refine z_invVi (As := [.int (zI x0), .int (zI 3)]) (rest := []) C0 Wd (ct_X12_of l g ad (zrow zM0 404 r_r7) zF0 x0 hx0 3 (zR_mk (by decide) (by decide)) (by omega)) kv_X12_of zN398 (zE_9 zK398) rfl zk_1801 rfl hl.1 rfl (Nat.le_of_ble_eq_true rfl) (by decide) (by decide) dX12_arrives_69 (fun r13 zMr13 zFr13 H locs hrr13 hp Wd => ?_)
              obtain ⟨rfl, rfl, rfl⟩ := hp
              refine z_top (show zI ((zrow zM0 404 r_r7) 399 (96 + 47 * x0 + 3)) = zI (zM0 399 (96 + 47 * x0 + 3)) from rfl) ?_
              replace hrr13 : zR (zM0 399 (96 + 47 * x0 + 3)) := hrr13
              refine z_iload C0 hl 5 rfl dX12_arrives_72 ?_
              refine z_invSi (As := [.int (zI (zM0 399 (96 + 47 * x0 + 3))), .int (zI (k55 : Int))]) (rest := []) C0 Wd (ct_X12_beat l g ad (zrow zM0 404 r_r7) zF0 (zM0 399 (96 + 47 * x0 + 3)) hrr13 (k55 : Int) (zR_mk (by omega) (by omega)) (by omega) (by omega)) kv_X12_beat zk_1905 rfl hl.1 rfl (Nat.le_of_ble_eq_true rfl) (by decide) (by decide) dX12_arrives_74 (fun r15 zMr15 zFr15 H locs hrr15 hp Wd => ?_)
              obtain ⟨rfl, rfl, rfl⟩ := hp
              refine z_iconst C0 dX12_arrives_77 ?_
              refine z_icmp_ne C0 (tgt := 128) hrr15 (zR_mk (by decide) (by decide)) dX12_arrives_78 (by decide) (fun c17 => ?_) (fun c17 => ?_)
              · skip
                refine z_iinc C0 hl 5 (t := (k55 : Int)) (u := ((k55 : Int) + 1)) rfl (by omega) [(5, .int (zI ((k55 : Int) + 1))), (0, .ref (ad 398)), (1, .int (zI x0)), (2, .int (zI (zM0 399 (96 + 47 * x0 + 2)))), (3, .int (zI (zM0 399 (72 + 4 * (zM0 399 (96 + 47 * x0 + 2)) + 0)))), (4, .int (zI u4))] (by decide) rfl dX12_arrives_128 (fun ls hl => ?_)
                refine z_goto C0 (tgt := 55) dX12_arrives_131 (by decide) ?_
                exact ih55 (k55 + 1) (by omega) u4 (zAr_step hu c12 (Or.inl ⟨Or.inr rfl, fun z => absurd z c17⟩)) (by omega) _ _ _ Wd (lv_sub hl [1, 2, 3, 4, 5, 0] rfl)
              · skip
                refine z_aload_n C0 hl 0 rfl dX12_arrives_81 ?_
                refine z_iload_n C0 hl 1 rfl dX12_arrives_82 ?_
                refine z_bipush C0 dX12_arrives_83 (by decide) ?_
                refine z_bipush C0 dX12_arrives_85 (by decide) ?_
                refine z_iload C0 hl 5 rfl dX12_arrives_87 ?_
                refine z_imul C0 dX12_arrives_89 ?_
                refine z_iadd C0 dX12_arrives_90 ?_
                refine z_iload_n C0 hl 3 rfl dX12_arrives_91 ?_
                refine z_iadd C0 dX12_arrives_92 ?_
                refine z_invVi (As := [.int (zI x0), .int (zI ((7 + (8 * (k55 : Int))) + (zM0 399 (72 + 4 * (zM0 399 (96 + 47 * x0 + 2)) + 0))))]) (rest := []) C0 Wd (ct_X12_of l g ad (zrow zM0 404 r_r7) zF0 x0 hx0 ((7 + (8 * (k55 : Int))) + (zM0 399 (72 + 4 * (zM0 399 (96 + 47 * x0 + 2)) + 0))) (by have q0 := hrr3.1; have p0 := hrr3.2; exact zR_mk (by omega) (by omega)) (by omega)) kv_X12_of zN398 (zE_9 zK398) rfl zk_1801 rfl hl.1 rfl (Nat.le_of_ble_eq_true rfl) (by decide) (by decide) dX12_arrives_93 (fun r18 zMr18 zFr18 H locs hrr18 hp Wd => ?_)
                obtain ⟨rfl, rfl, rfl⟩ := hp
                refine z_top (show zI ((zrow zM0 404 r_r7) 399 (96 + 47 * x0 + ((7 + (8 * (k55 : Int))) + (zM0 399 (72 + 4 * (zM0 399 (96 + 47 * x0 + 2)) + 0))))) = zI (zM0 399 (96 + 47 * x0 + ((7 + (8 * (k55 : Int))) + (zM0 399 (72 + 4 * (zM0 399 (96 + 47 * x0 + 2)) + 0))))) from rfl) ?_
                replace hrr18 : zR (zM0 399 (96 + 47 * x0 + ((7 + (8 * (k55 : Int))) + (zM0 399 (72 + 4 * (zM0 399 (96 + 47 * x0 + 2)) + 0))))) := hrr18
                have hm8 := m8 (7 + 8 * (k55 : Int) + zM0 399 (72 + 4 * zM0 399 (96 + 47 * x0 + 2) + 0)) (by omega) (by omega)
                refine z_iconst C0 dX12_arrives_96 ?_
                refine z_isub C0 dX12_arrives_97 ?_
                refine z_istore C0 hl [(6, .int (zI ((zM0 399 (96 + 47 * x0 + ((7 + (8 * (k55 : Int))) + (zM0 399 (72 + 4 * (zM0 399 (96 + 47 * x0 + 2)) + 0))))) - 1))), (0, .ref (ad 398)), (1, .int (zI x0)), (2, .int (zI (zM0 399 (96 + 47 * x0 + 2)))), (3, .int (zI (zM0 399 (72 + 4 * (zM0 399 (96 + 47 * x0 + 2)) + 0)))), (4, .int (zI u4)), (5, .int (zI (k55 : Int)))] (by decide) rfl dX12_arrives_98 (fun ls hl => ?_)
                refine z_iload C0 hl 0 rfl dX12_arrives_100 ?_
                refine z_if_lt C0 (tgt := 125) (by have q0 := hrr18.1; have p0 := hrr18.2; exact zR_mk (by omega) (by omega)) dX12_arrives_102 (by decide) (fun c20 => ?_) (fun c20 => ?_)
                · skip
                  refine z_iconst C0 dX12_arrives_125 ?_
                  refine z_istore C0 hl [(4, .int (zI 0)), (6, .int (zI ((zM0 399 (96 + 47 * x0 + ((7 + (8 * (k55 : Int))) + (zM0 399 (72 + 4 * (zM0 399 (96 + 47 * x0 + 2)) + 0))))) - 1))), (0, .ref (ad 398)), (1, .int (zI x0)), (2, .int (zI (zM0 399 (96 + 47 * x0 + 2)))), (3, .int (zI (zM0 399 (72 + 4 * (zM0 399 (96 + 47 * x0 + 2)) + 0)))), (5, .int (zI (k55 : Int)))] (by decide) rfl dX12_arrives_126 (fun ls hl => ?_)
                  refine z_iinc C0 hl 6 (t := (k55 : Int)) (u := ((k55 : Int) + 1)) rfl (by omega) [(5, .int (zI ((k55 : Int) + 1))), (4, .int (zI 0)), (6, .int (zI ((zM0 399 (96 + 47 * x0 + ((7 + (8 * (k55 : Int))) + (zM0 399 (72 + 4 * (zM0 399 (96 + 47 * x0 + 2)) + 0))))) - 1))), (0, .ref (ad 398)), (1, .int (zI x0)), (2, .int (zI (zM0 399 (96 + 47 * x0 + 2)))), (3, .int (zI (zM0 399 (72 + 4 * (zM0 399 (96 + 47 * x0 + 2)) + 0))))] (by decide) rfl dX12_arrives_128 (fun ls hl => ?_)
                  refine z_goto C0 (tgt := 55) dX12_arrives_131 (by decide) ?_
                  exact ih55 (k55 + 1) (by omega) 0 (zAr_step hu c12 (Or.inr ⟨rfl, fun z => by have z2 := (z c17).1; unfold zrc at z2; omega⟩)) (by omega) _ _ _ Wd (lv_sub hl [3, 4, 5, 6, 1, 0] rfl)
                · skip
                  refine z_aload_n C0 hl 1 rfl dX12_arrives_105 ?_
                  refine zg_9_0 C0 Wd zN398 zK398 zk_1612 dX12_arrives_106 ?_
                  refine z_aload_n C0 hl 1 rfl dX12_arrives_109 ?_
                  refine z_iload_n C0 hl 4 rfl dX12_arrives_110 ?_
                  refine z_iload C0 hl 0 rfl dX12_arrives_111 ?_
                  refine z_invVi (As := [.int (zI (zM0 399 (72 + 4 * (zM0 399 (96 + 47 * x0 + 2)) + 0))), .int (zI ((zM0 399 (96 + 47 * x0 + ((7 + (8 * (k55 : Int))) + (zM0 399 (72 + 4 * (zM0 399 (96 + 47 * x0 + 2)) + 0))))) - 1))]) (rest := [.ref (ad 399)]) C0 Wd (ct_X12_heard l g ad (zrow zM0 404 r_r7) zF0 (zM0 399 (72 + 4 * (zM0 399 (96 + 47 * x0 + 2)) + 0)) hrr3 ((zM0 399 (96 + 47 * x0 + ((7 + (8 * (k55 : Int))) + (zM0 399 (72 + 4 * (zM0 399 (96 + 47 * x0 + 2)) + 0))))) - 1) (by have q0 := hrr18.1; have p0 := hrr18.2; exact zR_mk (by omega) (by omega)) (by omega)) kv_X12_heard zN398 (zE_9 zK398) rfl zk_1936 rfl hl.1 rfl (Nat.le_of_ble_eq_true rfl) (by decide) (by decide) dX12_arrives_113 (fun r21 zMr21 zFr21 H locs hrr21 hp Wd => ?_)
                  obtain ⟨rfl, rfl, rfl⟩ := hp
                  refine z_iald C0 Wd zN399 zK399 zL399 (by omega) (by omega) (by decide) dX12_arrives_116 ?_
                  obtain ⟨he25, hz23⟩ : ((zrow zM0 404 r_r7) 399 (472 + 128 * (zM0 399 (72 + 4 * (zM0 399 (96 + 47 * x0 + 2)) + 0)) + ((zM0 399 (96 + 47 * x0 + ((7 + (8 * (k55 : Int))) + (zM0 399 (72 + 4 * (zM0 399 (96 + 47 * x0 + 2)) + 0))))) - 1) % 128)) = (zM0 399 (472 + 128 * (zM0 399 (72 + 4 * (zM0 399 (96 + 47 * x0 + 2)) + 0)) + ((zM0 399 (96 + 47 * x0 + ((7 + (8 * (k55 : Int))) + (zM0 399 (72 + 4 * (zM0 399 (96 + 47 * x0 + 2)) + 0))))) - 1) % 128)) ∧ zR (zM0 399 (472 + 128 * (zM0 399 (72 + 4 * (zM0 399 (96 + 47 * x0 + 2)) + 0)) + ((zM0 399 (96 + 47 * x0 + ((7 + (8 * (k55 : Int))) + (zM0 399 (72 + 4 * (zM0 399 (96 + 47 * x0 + 2)) + 0))))) - 1) % 128)) := (fun q => ⟨q, q ▸ Wd.rm _ _⟩) (congrFun (zrow_ne (by decide)) _)
                  refine z_top (congrArg zI he25) ?_
                  clear he25
                  refine z_iconst C0 dX12_arrives_117 ?_
                  refine z_icmp_ne C0 (tgt := 125) hz23 (zR_mk (by decide) (by decide)) dX12_arrives_118 (by decide) (fun c26 => ?_) (fun c26 => ?_)
                  · skip
                    refine z_iconst C0 dX12_arrives_125 ?_
                    refine z_istore C0 hl [(4, .int (zI 0)), (6, .int (zI ((zM0 399 (96 + 47 * x0 + ((7 + (8 * (k55 : Int))) + (zM0 399 (72 + 4 * (zM0 399 (96 + 47 * x0 + 2)) + 0))))) - 1))), (0, .ref (ad 398)), (1, .int (zI x0)), (2, .int (zI (zM0 399 (96 + 47 * x0 + 2)))), (3, .int (zI (zM0 399 (72 + 4 * (zM0 399 (96 + 47 * x0 + 2)) + 0)))), (5, .int (zI (k55 : Int)))] (by decide) rfl dX12_arrives_126 (fun ls hl => ?_)
                    refine z_iinc C0 hl 6 (t := (k55 : Int)) (u := ((k55 : Int) + 1)) rfl (by omega) [(5, .int (zI ((k55 : Int) + 1))), (4, .int (zI 0)), (6, .int (zI ((zM0 399 (96 + 47 * x0 + ((7 + (8 * (k55 : Int))) + (zM0 399 (72 + 4 * (zM0 399 (96 + 47 * x0 + 2)) + 0))))) - 1))), (0, .ref (ad 398)), (1, .int (zI x0)), (2, .int (zI (zM0 399 (96 + 47 * x0 + 2)))), (3, .int (zI (zM0 399 (72 + 4 * (zM0 399 (96 + 47 * x0 + 2)) + 0))))] (by decide) rfl dX12_arrives_128 (fun ls hl => ?_)
                    refine z_goto C0 (tgt := 55) dX12_arrives_131 (by decide) ?_
                    exact ih55 (k55 + 1) (by omega) 0 (zAr_step hu c12 (Or.inr ⟨rfl, fun z => c26 (z c17).2⟩)) (by omega) _ _ _ Wd (lv_sub hl [3, 4, 5, 6, 1, 0] rfl)
                  · skip
                    refine z_iconst C0 dX12_arrives_121 ?_
                    refine z_goto C0 (tgt := 126) dX12_arrives_122 (by decide) ?_
                    refine z_istore C0 hl [(4, .int (zI 1)), (6, .int (zI ((zM0 399 (96 + 47 * x0 + ((7 + (8 * (k55 : Int))) + (zM0 399 (72 + 4 * (zM0 399 (96 + 47 * x0 + 2)) + 0))))) - 1))), (0, .ref (ad 398)), (1, .int (zI x0)), (2, .int (zI (zM0 399 (96 + 47 * x0 + 2)))), (3, .int (zI (zM0 399 (72 + 4 * (zM0 399 (96 + 47 * x0 + 2)) + 0)))), (5, .int (zI (k55 : Int)))] (by decide) rfl dX12_arrives_126 (fun ls hl => ?_)
                    refine z_iinc C0 hl 6 (t := (k55 : Int)) (u := ((k55 : Int) + 1)) rfl (by omega) [(5, .int (zI ((k55 : Int) + 1))), (4, .int (zI 1)), (6, .int (zI ((zM0 399 (96 + 47 * x0 + ((7 + (8 * (k55 : Int))) + (zM0 399 (72 + 4 * (zM0 399 (96 + 47 * x0 + 2)) + 0))))) - 1))), (0, .ref (ad 398)), (1, .int (zI x0)), (2, .int (zI (zM0 399 (96 + 47 * x0 + 2)))), (3, .int (zI (zM0 399 (72 + 4 * (zM0 399 (96 + 47 * x0 + 2)) + 0))))] (by decide) rfl dX12_arrives_128 (fun ls hl => ?_)
                    refine z_goto C0 (tgt := 55) dX12_arrives_131 (by decide) ?_
                    exact ih55 (k55 + 1) (by omega) 1 (zAr_step hu c12 (Or.inl ⟨Or.inl rfl, fun _ => ⟨c20, c26⟩⟩)) (by omega) _ _ _ Wd (lv_sub hl [3, 4, 5, 6, 1, 0] rfl)
      exact lp55 5 0 (by omega) u4 (by rw [hu4]; congr 1; exact propext ⟨fun z => ⟨z, rfl⟩, fun z => z.1⟩) hu5 _ _ _ Wd (lv_sub hl [2, 3, 4, 5, 1, 0] rfl)
    have hnc := hr7_0_0 (zM0 399 (72 + 4 * (zM0 399 (96 + 47 * x0 + 2)) + 0)) (by omega) (by omega)
    refine z_aload_n C0 hl 2 rfl dX12_arrives_23 ?_
    refine z_iload_n C0 hl 1 rfl dX12_arrives_24 ?_
    refine z_iconst C0 dX12_arrives_25 ?_
    refine z_invVi (As := [.int (zI (zM0 399 (96 + 47 * x0 + 2))), .int (zI 1)]) (rest := []) C0 Wd (ct_X12_hare l g ad (zrow zM0 404 r_r7) zF0 (zM0 399 (96 + 47 * x0 + 2)) hrr1 1 (zR_mk (by decide) (by decide)) (by omega)) kv_X12_hare zN398 (zE_9 zK398) rfl zk_1805 rfl hl.1 rfl (Nat.le_of_ble_eq_true rfl) (by decide) (by decide) dX12_arrives_26 (fun r27 zMr27 zFr27 H locs hrr27 hp Wd => ?_)
    obtain ⟨rfl, rfl, rfl⟩ := hp
    refine z_top (show zI ((zrow zM0 404 r_r7) 399 (72 + 4 * (zM0 399 (96 + 47 * x0 + 2)) + 1)) = zI (zM0 399 (72 + 4 * (zM0 399 (96 + 47 * x0 + 2)) + 1)) from rfl) ?_
    replace hrr27 : zR (zM0 399 (72 + 4 * (zM0 399 (96 + 47 * x0 + 2)) + 1)) := hrr27
    refine z_iconst C0 dX12_arrives_29 ?_
    refine z_icmp_ne C0 (tgt := 49) hrr27 (zR_mk (by decide) (by decide)) dX12_arrives_30 (by decide) (fun c29 => ?_) (fun c29 => ?_)
    · skip
      refine z_iconst C0 dX12_arrives_49 ?_
      exact jn50 0 (by rw [zb_f (fun z => by first | exact absurd z.1 (by assumption) | (have z2 := z.2; rw [← hnc] at z2; omega))]) (by omega) _ _ _ Wd (lv_sub hl [2, 3, 1, 0] rfl)
    · skip
      refine z_aload_n C0 hl 2 rfl dX12_arrives_33 ?_
      refine zg_9_7 C0 Wd zN398 zK398 zk_1619 dX12_arrives_34 ?_
      refine z_iload_n C0 hl 0 rfl dX12_arrives_37 ?_
      refine z_iald C0 Wd zN404 zK404 zL404 (by omega) (by omega) (by decide) dX12_arrives_38 ?_
      obtain ⟨he32, hz30⟩ : ((zrow zM0 404 r_r7) 404 (zM0 399 (72 + 4 * (zM0 399 (96 + 47 * x0 + 2)) + 0))) = (r_r7 (zM0 399 (72 + 4 * (zM0 399 (96 + 47 * x0 + 2)) + 0))) ∧ zR (r_r7 (zM0 399 (72 + 4 * (zM0 399 (96 + 47 * x0 + 2)) + 0))) := (fun q => ⟨q, q ▸ Wd.rm _ _⟩) (congrFun (zrow_same _ _ _) _)
      refine z_top (congrArg zI he32) ?_
      clear he32
      refine z_sipush C0 dX12_arrives_39 (by decide) ?_
      refine z_icmp_ge C0 (tgt := 49) hz30 (zR_mk (by decide) (by decide)) dX12_arrives_42 (by decide) (fun c33 => ?_) (fun c33 => ?_)
      · skip
        refine z_iconst C0 dX12_arrives_49 ?_
        exact jn50 0 (by rw [zb_f (fun z => by first | exact absurd z.1 (by assumption) | (have z2 := z.2; rw [← hnc] at z2; omega))]) (by omega) _ _ _ Wd (lv_sub hl [2, 3, 1, 0] rfl)
      · skip
        refine z_iconst C0 dX12_arrives_45 ?_
        refine z_goto C0 (tgt := 50) dX12_arrives_46 (by decide) ?_
        exact jn50 1 (by rw [zb_t ⟨by assumption, by rw [← hnc]; assumption⟩]) (by omega) _ _ _ Wd (lv_sub hl [2, 3, 1, 0] rfl)
theorem kv_X12_decides : zKV yX12_decides cX12_decides 4 none "DrumWarrenModel" 1 := ⟨zk_1943, zk_1942, zk_53, zk_80, by decide, by decide, by decide +kernel⟩
set_option maxHeartbeats 4000000 in
set_option maxRecDepth 100000 in
theorem ct_X12_decides (l : Launch) (g : zG) (ad : Int → Nat) (zM0 zF0 : zMem) (zt : Int) (x0 : Int) (hx0 : zR x0) (hV : zIV zt (zM0 399)) (ht : zt ≤ 100000000) (hp : 0 ≤ x0 ∧ x0 < zM0 399 2) (hd : zM0 399 (96 + 47 * x0 + 4) = 100) : zMt l yX12_decides cX12_decides 4 none 4 0 0 g 410 ad [.ref (ad 398), .int (zI x0)] zM0 zF0 (zPv (fun M' F' => (∃ r : Int → Int, (zrow (zrow zM0 399 (zDe x0 (zM0 399))) 404 r) = M' ∧ zF0 = F'))) := by
  refine zMt.of "DrumWarrenModel" rfl (by decide) (Nat.le_of_ble_eq_true rfl) (fun {p e s m args below meth c ls} C0 Wd hl hret hlk hin => ?_)
  have hl : lv_has ls 4 [(0, .ref (ad 398)), (1, .int (zI x0))] := hl
  obtain ⟨hc0, hc1, hc2, hcs, hT, hH, hM, hR⟩ := id hV
  obtain ⟨m0, m1, m2, m3, -, m5, -, m7, m8⟩ := hM x0 hp.1 hp.2
  have hm2 := (hH _ m2.1 m2.2).2.2
  have hs6 := hcs 6 (by decide) (by decide)
  have hs7 := hcs 7 (by decide) (by decide)
  replace Wd : zW g _ s.heap 410 ad (zrow (zrow zM0 399 (zM0 399)) 404 (zM0 404)) _ s.heap [] := (by rw [zrows_eta (by decide)]; exact Wd)
  refine z_bipush C0 dX12_decides_0 (by decide) ?_
  refine z_iconst C0 dX12_decides_2 ?_
  refine z_aload_n C0 hl 0 rfl dX12_decides_3 ?_
  refine z_iload_n C0 hl 1 rfl dX12_decides_4 ?_
  refine z_iconst C0 dX12_decides_5 ?_
  refine z_invVi (As := [.int (zI x0), .int (zI 2)]) (rest := [.int (zI 4), .int (zI 72)]) C0 Wd (ct_X12_of l g ad (zrow (zrow zM0 399 (zM0 399)) 404 (zM0 404)) zF0 x0 hx0 2 (zR_mk (by decide) (by decide)) (by omega)) kv_X12_of zN398 (zE_9 zK398) rfl zk_1801 rfl hl.1 rfl (Nat.le_of_ble_eq_true rfl) (by decide) (by decide) dX12_decides_6 (fun r1 zMr1 zFr1 H locs hrr1 hp Wd => ?_)
  obtain ⟨rfl, rfl, rfl⟩ := hp
  refine z_top (show zI ((zrow (zrow zM0 399 (zM0 399)) 404 (zM0 404)) 399 (96 + 47 * x0 + 2)) = zI ((zM0 399) (96 + 47 * x0 + 2)) from rfl) ?_
  replace hrr1 : zR ((zM0 399) (96 + 47 * x0 + 2)) := hrr1
  refine z_imul C0 dX12_decides_9 ?_
  refine z_iadd C0 dX12_decides_10 ?_
  refine z_istore_n C0 hl [(2, .int (zI (72 + (4 * ((zM0 399) (96 + 47 * x0 + 2)))))), (0, .ref (ad 398)), (1, .int (zI x0))] (by decide) rfl dX12_decides_11 (fun ls hl => ?_)
  refine z_aload_n C0 hl 1 rfl dX12_decides_12 ?_
  refine z_iload_n C0 hl 2 rfl dX12_decides_13 ?_
  refine z_invVi (As := [.int (zI x0)]) (rest := []) C0 Wd (ct_X12_arrives l g ad (zrow (zrow zM0 399 (zM0 399)) 404 (zM0 404)) zF0 zt x0 hx0 (by show zIV zt (zM0 399); first | omega | assumption) (by omega) (by show 0 ≤ x0 ∧ x0 < ((zM0 399) 2); first | omega | assumption)) kv_X12_arrives zN398 (zE_9 zK398) rfl zk_1944 rfl hl.1 rfl (Nat.le_of_ble_eq_true rfl) (by decide) (by decide) dX12_decides_14 (fun r3 zMr3 zFr3 H locs hrr3 hp Wd => ?_)
  rcases hp with ⟨w_r3, rfl, rfl, rfl⟩
  · skip
    replace Wd := zW.mem Wd (show _ = (zrow (zrow zM0 399 (zM0 399)) 404 w_r3) from (zrow_twice (zrow zM0 399 (zM0 399)) 404 (zM0 404) w_r3))
    refine z_top (show zI (zb (zAr x0 ((zrow (zrow zM0 399 (zM0 399)) 404 (zM0 404)) 399) = true)) = zI (zb (zAr x0 (zM0 399) = true)) from rfl) ?_
    replace hrr3 : zR (zb (zAr x0 (zM0 399) = true)) := hrr3
    refine z_istore_n C0 hl [(3, .int (zI (zb (zAr x0 (zM0 399) = true)))), (2, .int (zI (72 + (4 * ((zM0 399) (96 + 47 * x0 + 2)))))), (0, .ref (ad 398)), (1, .int (zI x0))] (by decide) rfl dX12_decides_17 (fun ls hl => ?_)
    refine z_aload_n C0 hl 2 rfl dX12_decides_18 ?_
    refine z_iload_n C0 hl 3 rfl dX12_decides_19 ?_
    refine z_bipush C0 dX12_decides_20 (by decide) ?_
    refine z_iconst C0 dX12_decides_22 ?_
    refine z_invVv (As := [.int (zI x0), .int (zI 6), .int (zI 0)]) (rest := []) C0 Wd (ct_X12_sets l g ad (zrow (zrow zM0 399 (zM0 399)) 404 w_r3) zF0 x0 hx0 6 (zR_mk (by decide) (by decide)) 0 (zR_mk (by decide) (by decide)) (by omega)) kv_X12_sets zN398 (zE_9 zK398) rfl zk_1853 rfl hl.1 rfl (Nat.le_of_ble_eq_true rfl) (by decide) (by decide) dX12_decides_23 (fun zMr5 zFr5 H locs hp Wd => ?_)
    obtain ⟨rfl, rfl⟩ := hp
    replace Wd := zW.mem Wd (show _ = (zrow (zrow zM0 399 (zup (zM0 399) (96 + 47 * x0 + 6) 0)) 404 w_r3) from ((zu_zrow_ne (by decide)).trans (zrow_c 404 w_r3 (zu_zrow zM0 399 (zM0 399) (96 + 47 * x0 + 6) 0))))
    refine z_iload_n C0 hl 0 rfl dX12_decides_26 ?_
    refine z_if_eq_b C0 (tgt := 80) dX12_decides_27 (by decide) (fun c7 => ?_) (fun c7 => ?_)
    · skip
      refine z_aload_n C0 hl 2 rfl dX12_decides_80 ?_
      refine z_iload_n C0 hl 3 rfl dX12_decides_81 ?_
      refine z_iconst C0 dX12_decides_82 ?_
      refine z_aload_n C0 hl 2 rfl dX12_decides_83 ?_
      refine z_iload_n C0 hl 3 rfl dX12_decides_84 ?_
      refine z_iconst C0 dX12_decides_85 ?_
      refine z_invVi (As := [.int (zI x0), .int (zI 5)]) (rest := [.int (zI 5), .int (zI x0), .ref (ad 398)]) C0 Wd (ct_X12_of l g ad (zrow (zrow zM0 399 (zup (zM0 399) (96 + 47 * x0 + 6) 0)) 404 w_r3) zF0 x0 hx0 5 (zR_mk (by decide) (by decide)) (by omega)) kv_X12_of zN398 (zE_9 zK398) rfl zk_1801 rfl hl.1 rfl (Nat.le_of_ble_eq_true rfl) (by decide) (by decide) dX12_decides_86 (fun r8 zMr8 zFr8 H locs hrr8 hp Wd => ?_)
      obtain ⟨rfl, rfl, rfl⟩ := hp
      refine z_top (show zI ((zrow (zrow zM0 399 (zup (zM0 399) (96 + 47 * x0 + 6) 0)) 404 w_r3) 399 (96 + 47 * x0 + 5)) = zI ((zup (zM0 399) (96 + 47 * x0 + 6) 0) (96 + 47 * x0 + 5)) from rfl) ?_
      replace hrr8 : zR ((zup (zM0 399) (96 + 47 * x0 + 6) 0) (96 + 47 * x0 + 5)) := hrr8
      obtain ⟨he11, hrr8⟩ : ((zup (zM0 399) (96 + 47 * x0 + 6) 0) (96 + 47 * x0 + 5)) = ((zM0 399) (96 + 47 * x0 + 5)) ∧ zR ((zM0 399) (96 + 47 * x0 + 5)) := (fun q => ⟨q, q ▸ hrr8⟩) (zup_ne (by omega))
      refine z_top (congrArg zI he11) ?_
      clear he11
      refine z_iconst C0 dX12_decides_89 ?_
      refine z_iadd C0 dX12_decides_90 ?_
      refine z_invVv (As := [.int (zI x0), .int (zI 5), .int (zI (((zM0 399) (96 + 47 * x0 + 5)) + 1))]) (rest := []) C0 Wd (ct_X12_sets l g ad (zrow (zrow zM0 399 (zup (zM0 399) (96 + 47 * x0 + 6) 0)) 404 w_r3) zF0 x0 hx0 5 (zR_mk (by decide) (by decide)) (((zM0 399) (96 + 47 * x0 + 5)) + 1) (by have q0 := hrr8.1; have p0 := hrr8.2; exact zR_mk (by omega) (by omega)) (by omega)) kv_X12_sets zN398 (zE_9 zK398) rfl zk_1853 rfl hl.1 rfl (Nat.le_of_ble_eq_true rfl) (by decide) (by decide) dX12_decides_91 (fun zMr12 zFr12 H locs hp Wd => ?_)
      obtain ⟨rfl, rfl⟩ := hp
      replace Wd := zW.mem Wd (show _ = (zrow (zrow zM0 399 (zup (zup (zM0 399) (96 + 47 * x0 + 6) 0) (96 + 47 * x0 + 5) (((zM0 399) (96 + 47 * x0 + 5)) + 1))) 404 w_r3) from ((zu_zrow_ne (by decide)).trans (zrow_c 404 w_r3 (zu_zrow zM0 399 (zup (zM0 399) (96 + 47 * x0 + 6) 0) (96 + 47 * x0 + 5) (((zM0 399) (96 + 47 * x0 + 5)) + 1)))))
      refine z_aload_n C0 hl 2 rfl dX12_decides_94 ?_
      refine z_iload_n C0 hl 3 rfl dX12_decides_95 ?_
      refine z_iconst C0 dX12_decides_96 ?_
      refine z_aload_n C0 hl 2 rfl dX12_decides_97 ?_
      refine z_iload_n C0 hl 3 rfl dX12_decides_98 ?_
      refine z_iconst C0 dX12_decides_99 ?_
      refine z_invVi (As := [.int (zI x0), .int (zI 5)]) (rest := [.int (zI 4), .int (zI x0), .ref (ad 398)]) C0 Wd (ct_X12_of l g ad (zrow (zrow zM0 399 (zup (zup (zM0 399) (96 + 47 * x0 + 6) 0) (96 + 47 * x0 + 5) (((zM0 399) (96 + 47 * x0 + 5)) + 1))) 404 w_r3) zF0 x0 hx0 5 (zR_mk (by decide) (by decide)) (by omega)) kv_X12_of zN398 (zE_9 zK398) rfl zk_1801 rfl hl.1 rfl (Nat.le_of_ble_eq_true rfl) (by decide) (by decide) dX12_decides_100 (fun r14 zMr14 zFr14 H locs hrr14 hp Wd => ?_)
      obtain ⟨rfl, rfl, rfl⟩ := hp
      refine z_top (show zI ((zrow (zrow zM0 399 (zup (zup (zM0 399) (96 + 47 * x0 + 6) 0) (96 + 47 * x0 + 5) (((zM0 399) (96 + 47 * x0 + 5)) + 1))) 404 w_r3) 399 (96 + 47 * x0 + 5)) = zI ((zup (zup (zM0 399) (96 + 47 * x0 + 6) 0) (96 + 47 * x0 + 5) (((zM0 399) (96 + 47 * x0 + 5)) + 1)) (96 + 47 * x0 + 5)) from rfl) ?_
      replace hrr14 : zR ((zup (zup (zM0 399) (96 + 47 * x0 + 6) 0) (96 + 47 * x0 + 5) (((zM0 399) (96 + 47 * x0 + 5)) + 1)) (96 + 47 * x0 + 5)) := hrr14
      obtain ⟨he17, hrr14⟩ : ((zup (zup (zM0 399) (96 + 47 * x0 + 6) 0) (96 + 47 * x0 + 5) (((zM0 399) (96 + 47 * x0 + 5)) + 1)) (96 + 47 * x0 + 5)) = (((zM0 399) (96 + 47 * x0 + 5)) + 1) ∧ zR (((zM0 399) (96 + 47 * x0 + 5)) + 1) := (fun q => ⟨q, q ▸ hrr14⟩) (zup_same _ _ _)
      refine z_top (congrArg zI he17) ?_
      clear he17
      refine z_iconst C0 dX12_decides_103 ?_
      refine z_icmp_ne C0 (tgt := 112) hrr14 (zR_mk (by decide) (by decide)) dX12_decides_104 (by decide) (fun c18 => ?_) (fun c18 => ?_)
      · skip
        refine z_bipush C0 dX12_decides_112 (by decide) ?_
        refine z_invVv (As := [.int (zI x0), .int (zI 4), .int (zI 119)]) (rest := []) C0 Wd (ct_X12_sets l g ad (zrow (zrow zM0 399 (zup (zup (zM0 399) (96 + 47 * x0 + 6) 0) (96 + 47 * x0 + 5) (((zM0 399) (96 + 47 * x0 + 5)) + 1))) 404 w_r3) zF0 x0 hx0 4 (zR_mk (by decide) (by decide)) 119 (zR_mk (by decide) (by decide)) (by omega)) kv_X12_sets zN398 (zE_9 zK398) rfl zk_1853 rfl hl.1 rfl (Nat.le_of_ble_eq_true rfl) (by decide) (by decide) dX12_decides_114 (fun zMr19 zFr19 H locs hp Wd => ?_)
        obtain ⟨rfl, rfl⟩ := hp
        replace Wd := zW.mem Wd (show _ = (zrow (zrow zM0 399 (zup (zup (zup (zM0 399) (96 + 47 * x0 + 6) 0) (96 + 47 * x0 + 5) (((zM0 399) (96 + 47 * x0 + 5)) + 1)) (96 + 47 * x0 + 4) 119)) 404 w_r3) from ((zu_zrow_ne (by decide)).trans (zrow_c 404 w_r3 (zu_zrow zM0 399 (zup (zup (zM0 399) (96 + 47 * x0 + 6) 0) (96 + 47 * x0 + 5) (((zM0 399) (96 + 47 * x0 + 5)) + 1)) (96 + 47 * x0 + 4) 119))))
        refine z_aload_n C0 hl 2 rfl dX12_decides_117 ?_
        refine zg_9_0 C0 Wd zN398 zK398 zk_1612 dX12_decides_118 ?_
        refine z_bipush C0 dX12_decides_121 (by decide) ?_
        refine z_dup2 C0 rfl rfl dX12_decides_123 ?_
        refine z_iald C0 Wd zN399 zK399 zL399 (by decide) (by decide) (by decide) dX12_decides_124 ?_
        obtain ⟨he23, hz21⟩ : ((zrow (zrow zM0 399 (zup (zup (zup (zM0 399) (96 + 47 * x0 + 6) 0) (96 + 47 * x0 + 5) (((zM0 399) (96 + 47 * x0 + 5)) + 1)) (96 + 47 * x0 + 4) 119)) 404 w_r3) 399 7) = ((zM0 399) 7) ∧ zR ((zM0 399) 7) := (fun q => ⟨q, q ▸ Wd.rm _ _⟩) ((congrFun (zrow_ne (by decide)) _).trans ((congrFun (zrow_same _ _ _) _).trans ((zup_ne (by omega)).trans ((zup_ne (by omega)).trans (zup_ne (by omega))))))
        refine z_top (congrArg zI he23) ?_
        clear he23
        refine z_iconst C0 dX12_decides_125 ?_
        refine z_iadd C0 dX12_decides_126 ?_
        refine z_iast C0 Wd zN399 zK399 zL399 (by decide) (by decide) (by decide) (by have q0 := hz21.1; have p0 := hz21.2; exact zR_mk (by omega) (by omega)) dX12_decides_127 (fun H locs Wd => ?_)
        replace Wd := zW.mem Wd (show _ = (zrow (zrow zM0 399 (zup (zup (zup (zup (zM0 399) (96 + 47 * x0 + 6) 0) (96 + 47 * x0 + 5) (((zM0 399) (96 + 47 * x0 + 5)) + 1)) (96 + 47 * x0 + 4) 119) 7 (((zM0 399) 7) + 1))) 404 w_r3) from ((zu_zrow_ne (by decide)).trans (zrow_c 404 w_r3 (zu_zrow zM0 399 (zup (zup (zup (zM0 399) (96 + 47 * x0 + 6) 0) (96 + 47 * x0 + 5) (((zM0 399) (96 + 47 * x0 + 5)) + 1)) (96 + 47 * x0 + 4) 119) 7 (((zM0 399) 7) + 1)))))
        exact z_vret C0 Wd hret hlk ⟨_, by first | (rw [zDe, if_pos (by assumption)]; done) | (rw [zDe, if_neg (by assumption)]; first | (rw [if_pos (by assumption)]; done) | (rw [if_neg (by assumption)]; done)), rfl⟩ dX12_decides_128
      · skip
        refine z_bipush C0 dX12_decides_107 (by decide) ?_
        refine z_goto C0 (tgt := 114) dX12_decides_109 (by decide) ?_
        refine z_invVv (As := [.int (zI x0), .int (zI 4), .int (zI 108)]) (rest := []) C0 Wd (ct_X12_sets l g ad (zrow (zrow zM0 399 (zup (zup (zM0 399) (96 + 47 * x0 + 6) 0) (96 + 47 * x0 + 5) (((zM0 399) (96 + 47 * x0 + 5)) + 1))) 404 w_r3) zF0 x0 hx0 4 (zR_mk (by decide) (by decide)) 108 (zR_mk (by decide) (by decide)) (by omega)) kv_X12_sets zN398 (zE_9 zK398) rfl zk_1853 rfl hl.1 rfl (Nat.le_of_ble_eq_true rfl) (by decide) (by decide) dX12_decides_114 (fun zMr24 zFr24 H locs hp Wd => ?_)
        obtain ⟨rfl, rfl⟩ := hp
        replace Wd := zW.mem Wd (show _ = (zrow (zrow zM0 399 (zup (zup (zup (zM0 399) (96 + 47 * x0 + 6) 0) (96 + 47 * x0 + 5) (((zM0 399) (96 + 47 * x0 + 5)) + 1)) (96 + 47 * x0 + 4) 108)) 404 w_r3) from ((zu_zrow_ne (by decide)).trans (zrow_c 404 w_r3 (zu_zrow zM0 399 (zup (zup (zM0 399) (96 + 47 * x0 + 6) 0) (96 + 47 * x0 + 5) (((zM0 399) (96 + 47 * x0 + 5)) + 1)) (96 + 47 * x0 + 4) 108))))
        refine z_aload_n C0 hl 2 rfl dX12_decides_117 ?_
        refine zg_9_0 C0 Wd zN398 zK398 zk_1612 dX12_decides_118 ?_
        refine z_bipush C0 dX12_decides_121 (by decide) ?_
        refine z_dup2 C0 rfl rfl dX12_decides_123 ?_
        refine z_iald C0 Wd zN399 zK399 zL399 (by decide) (by decide) (by decide) dX12_decides_124 ?_
        obtain ⟨he28, hz26⟩ : ((zrow (zrow zM0 399 (zup (zup (zup (zM0 399) (96 + 47 * x0 + 6) 0) (96 + 47 * x0 + 5) (((zM0 399) (96 + 47 * x0 + 5)) + 1)) (96 + 47 * x0 + 4) 108)) 404 w_r3) 399 7) = ((zM0 399) 7) ∧ zR ((zM0 399) 7) := (fun q => ⟨q, q ▸ Wd.rm _ _⟩) ((congrFun (zrow_ne (by decide)) _).trans ((congrFun (zrow_same _ _ _) _).trans ((zup_ne (by omega)).trans ((zup_ne (by omega)).trans (zup_ne (by omega))))))
        refine z_top (congrArg zI he28) ?_
        clear he28
        refine z_iconst C0 dX12_decides_125 ?_
        refine z_iadd C0 dX12_decides_126 ?_
        refine z_iast C0 Wd zN399 zK399 zL399 (by decide) (by decide) (by decide) (by have q0 := hz26.1; have p0 := hz26.2; exact zR_mk (by omega) (by omega)) dX12_decides_127 (fun H locs Wd => ?_)
        replace Wd := zW.mem Wd (show _ = (zrow (zrow zM0 399 (zup (zup (zup (zup (zM0 399) (96 + 47 * x0 + 6) 0) (96 + 47 * x0 + 5) (((zM0 399) (96 + 47 * x0 + 5)) + 1)) (96 + 47 * x0 + 4) 108) 7 (((zM0 399) 7) + 1))) 404 w_r3) from ((zu_zrow_ne (by decide)).trans (zrow_c 404 w_r3 (zu_zrow zM0 399 (zup (zup (zup (zM0 399) (96 + 47 * x0 + 6) 0) (96 + 47 * x0 + 5) (((zM0 399) (96 + 47 * x0 + 5)) + 1)) (96 + 47 * x0 + 4) 108) 7 (((zM0 399) 7) + 1)))))
        exact z_vret C0 Wd hret hlk ⟨_, by first | (rw [zDe, if_pos (by assumption)]; done) | (rw [zDe, if_neg (by assumption)]; first | (rw [if_pos (by assumption)]; done) | (rw [if_neg (by assumption)]; done)), rfl⟩ dX12_decides_128
    · skip
      refine z_aload_n C0 hl 2 rfl dX12_decides_30 ?_
      refine z_iload_n C0 hl 3 rfl dX12_decides_31 ?_
      refine z_iconst C0 dX12_decides_32 ?_
      refine z_bipush C0 dX12_decides_33 (by decide) ?_
      refine z_invVv (As := [.int (zI x0), .int (zI 4), .int (zI 114)]) (rest := []) C0 Wd (ct_X12_sets l g ad (zrow (zrow zM0 399 (zup (zM0 399) (96 + 47 * x0 + 6) 0)) 404 w_r3) zF0 x0 hx0 4 (zR_mk (by decide) (by decide)) 114 (zR_mk (by decide) (by decide)) (by omega)) kv_X12_sets zN398 (zE_9 zK398) rfl zk_1853 rfl hl.1 rfl (Nat.le_of_ble_eq_true rfl) (by decide) (by decide) dX12_decides_35 (fun zMr29 zFr29 H locs hp Wd => ?_)
      obtain ⟨rfl, rfl⟩ := hp
      replace Wd := zW.mem Wd (show _ = (zrow (zrow zM0 399 (zup (zup (zM0 399) (96 + 47 * x0 + 6) 0) (96 + 47 * x0 + 4) 114)) 404 w_r3) from ((zu_zrow_ne (by decide)).trans (zrow_c 404 w_r3 (zu_zrow zM0 399 (zup (zM0 399) (96 + 47 * x0 + 6) 0) (96 + 47 * x0 + 4) 114))))
      refine z_aload_n C0 hl 2 rfl dX12_decides_38 ?_
      refine zg_9_0 C0 Wd zN398 zK398 zk_1612 dX12_decides_39 ?_
      refine z_iload_n C0 hl 1 rfl dX12_decides_42 ?_
      refine z_iconst C0 dX12_decides_43 ?_
      refine z_iadd C0 dX12_decides_44 ?_
      refine z_dup2 C0 rfl rfl dX12_decides_45 ?_
      refine z_iald C0 Wd zN399 zK399 zL399 (by omega) (by omega) (by decide) dX12_decides_46 ?_
      obtain ⟨he33, hz31⟩ : ((zrow (zrow zM0 399 (zup (zup (zM0 399) (96 + 47 * x0 + 6) 0) (96 + 47 * x0 + 4) 114)) 404 w_r3) 399 ((72 + (4 * ((zM0 399) (96 + 47 * x0 + 2)))) + 2)) = ((zM0 399) ((72 + (4 * ((zM0 399) (96 + 47 * x0 + 2)))) + 2)) ∧ zR ((zM0 399) ((72 + (4 * ((zM0 399) (96 + 47 * x0 + 2)))) + 2)) := (fun q => ⟨q, q ▸ Wd.rm _ _⟩) ((congrFun (zrow_ne (by decide)) _).trans ((congrFun (zrow_same _ _ _) _).trans ((zup_ne (by omega)).trans (zup_ne (by omega)))))
      refine z_top (congrArg zI he33) ?_
      clear he33
      refine z_iconst C0 dX12_decides_47 ?_
      refine z_iadd C0 dX12_decides_48 ?_
      refine z_iast C0 Wd zN399 zK399 zL399 (by omega) (by omega) (by decide) (by have q0 := hz31.1; have p0 := hz31.2; exact zR_mk (by omega) (by omega)) dX12_decides_49 (fun H locs Wd => ?_)
      replace Wd := zW.mem Wd (show _ = (zrow (zrow zM0 399 (zup (zup (zup (zM0 399) (96 + 47 * x0 + 6) 0) (96 + 47 * x0 + 4) 114) ((72 + (4 * ((zM0 399) (96 + 47 * x0 + 2)))) + 2) (((zM0 399) ((72 + (4 * ((zM0 399) (96 + 47 * x0 + 2)))) + 2)) + 1))) 404 w_r3) from ((zu_zrow_ne (by decide)).trans (zrow_c 404 w_r3 (zu_zrow zM0 399 (zup (zup (zM0 399) (96 + 47 * x0 + 6) 0) (96 + 47 * x0 + 4) 114) ((72 + (4 * ((zM0 399) (96 + 47 * x0 + 2)))) + 2) (((zM0 399) ((72 + (4 * ((zM0 399) (96 + 47 * x0 + 2)))) + 2)) + 1)))))
      refine z_aload_n C0 hl 2 rfl dX12_decides_50 ?_
      refine zg_9_0 C0 Wd zN398 zK398 zk_1612 dX12_decides_51 ?_
      refine z_iload_n C0 hl 1 rfl dX12_decides_54 ?_
      refine z_iconst C0 dX12_decides_55 ?_
      refine z_iadd C0 dX12_decides_56 ?_
      refine z_aload_n C0 hl 2 rfl dX12_decides_57 ?_
      refine z_iload_n C0 hl 3 rfl dX12_decides_58 ?_
      refine z_iconst C0 dX12_decides_59 ?_
      refine z_invVi (As := [.int (zI x0), .int (zI 3)]) (rest := [.int (zI ((72 + (4 * ((zM0 399) (96 + 47 * x0 + 2)))) + 3)), .ref (ad 399)]) C0 Wd (ct_X12_of l g ad (zrow (zrow zM0 399 (zup (zup (zup (zM0 399) (96 + 47 * x0 + 6) 0) (96 + 47 * x0 + 4) 114) ((72 + (4 * ((zM0 399) (96 + 47 * x0 + 2)))) + 2) (((zM0 399) ((72 + (4 * ((zM0 399) (96 + 47 * x0 + 2)))) + 2)) + 1))) 404 w_r3) zF0 x0 hx0 3 (zR_mk (by decide) (by decide)) (by omega)) kv_X12_of zN398 (zE_9 zK398) rfl zk_1801 rfl hl.1 rfl (Nat.le_of_ble_eq_true rfl) (by decide) (by decide) dX12_decides_60 (fun r34 zMr34 zFr34 H locs hrr34 hp Wd => ?_)
      obtain ⟨rfl, rfl, rfl⟩ := hp
      refine z_top (show zI ((zrow (zrow zM0 399 (zup (zup (zup (zM0 399) (96 + 47 * x0 + 6) 0) (96 + 47 * x0 + 4) 114) ((72 + (4 * ((zM0 399) (96 + 47 * x0 + 2)))) + 2) (((zM0 399) ((72 + (4 * ((zM0 399) (96 + 47 * x0 + 2)))) + 2)) + 1))) 404 w_r3) 399 (96 + 47 * x0 + 3)) = zI ((zup (zup (zup (zM0 399) (96 + 47 * x0 + 6) 0) (96 + 47 * x0 + 4) 114) ((72 + (4 * ((zM0 399) (96 + 47 * x0 + 2)))) + 2) (((zM0 399) ((72 + (4 * ((zM0 399) (96 + 47 * x0 + 2)))) + 2)) + 1)) (96 + 47 * x0 + 3)) from rfl) ?_
      replace hrr34 : zR ((zup (zup (zup (zM0 399) (96 + 47 * x0 + 6) 0) (96 + 47 * x0 + 4) 114) ((72 + (4 * ((zM0 399) (96 + 47 * x0 + 2)))) + 2) (((zM0 399) ((72 + (4 * ((zM0 399) (96 + 47 * x0 + 2)))) + 2)) + 1)) (96 + 47 * x0 + 3)) := hrr34
      obtain ⟨he37, hrr34⟩ : ((zup (zup (zup (zM0 399) (96 + 47 * x0 + 6) 0) (96 + 47 * x0 + 4) 114) ((72 + (4 * ((zM0 399) (96 + 47 * x0 + 2)))) + 2) (((zM0 399) ((72 + (4 * ((zM0 399) (96 + 47 * x0 + 2)))) + 2)) + 1)) (96 + 47 * x0 + 3)) = ((zM0 399) (96 + 47 * x0 + 3)) ∧ zR ((zM0 399) (96 + 47 * x0 + 3)) := (fun q => ⟨q, q ▸ hrr34⟩) ((zup_ne (by omega)).trans ((zup_ne (by omega)).trans (zup_ne (by omega))))
      refine z_top (congrArg zI he37) ?_
      clear he37
      refine z_iconst C0 dX12_decides_63 ?_
      refine z_iadd C0 dX12_decides_64 ?_
      refine z_iast C0 Wd zN399 zK399 zL399 (by omega) (by omega) (by decide) (by have q0 := hrr34.1; have p0 := hrr34.2; exact zR_mk (by omega) (by omega)) dX12_decides_65 (fun H locs Wd => ?_)
      replace Wd := zW.mem Wd (show _ = (zrow (zrow zM0 399 (zup (zup (zup (zup (zM0 399) (96 + 47 * x0 + 6) 0) (96 + 47 * x0 + 4) 114) ((72 + (4 * ((zM0 399) (96 + 47 * x0 + 2)))) + 2) (((zM0 399) ((72 + (4 * ((zM0 399) (96 + 47 * x0 + 2)))) + 2)) + 1)) ((72 + (4 * ((zM0 399) (96 + 47 * x0 + 2)))) + 3) (((zM0 399) (96 + 47 * x0 + 3)) + 1))) 404 w_r3) from ((zu_zrow_ne (by decide)).trans (zrow_c 404 w_r3 (zu_zrow zM0 399 (zup (zup (zup (zM0 399) (96 + 47 * x0 + 6) 0) (96 + 47 * x0 + 4) 114) ((72 + (4 * ((zM0 399) (96 + 47 * x0 + 2)))) + 2) (((zM0 399) ((72 + (4 * ((zM0 399) (96 + 47 * x0 + 2)))) + 2)) + 1)) ((72 + (4 * ((zM0 399) (96 + 47 * x0 + 2)))) + 3) (((zM0 399) (96 + 47 * x0 + 3)) + 1)))))
      refine z_aload_n C0 hl 2 rfl dX12_decides_66 ?_
      refine zg_9_0 C0 Wd zN398 zK398 zk_1612 dX12_decides_67 ?_
      refine z_bipush C0 dX12_decides_70 (by decide) ?_
      refine z_dup2 C0 rfl rfl dX12_decides_72 ?_
      refine z_iald C0 Wd zN399 zK399 zL399 (by decide) (by decide) (by decide) dX12_decides_73 ?_
      obtain ⟨he40, hz38⟩ : ((zrow (zrow zM0 399 (zup (zup (zup (zup (zM0 399) (96 + 47 * x0 + 6) 0) (96 + 47 * x0 + 4) 114) ((72 + (4 * ((zM0 399) (96 + 47 * x0 + 2)))) + 2) (((zM0 399) ((72 + (4 * ((zM0 399) (96 + 47 * x0 + 2)))) + 2)) + 1)) ((72 + (4 * ((zM0 399) (96 + 47 * x0 + 2)))) + 3) (((zM0 399) (96 + 47 * x0 + 3)) + 1))) 404 w_r3) 399 6) = ((zM0 399) 6) ∧ zR ((zM0 399) 6) := (fun q => ⟨q, q ▸ Wd.rm _ _⟩) ((congrFun (zrow_ne (by decide)) _).trans ((congrFun (zrow_same _ _ _) _).trans ((zup_ne (by omega)).trans ((zup_ne (by omega)).trans ((zup_ne (by omega)).trans (zup_ne (by omega)))))))
      refine z_top (congrArg zI he40) ?_
      clear he40
      refine z_iconst C0 dX12_decides_74 ?_
      refine z_iadd C0 dX12_decides_75 ?_
      refine z_iast C0 Wd zN399 zK399 zL399 (by decide) (by decide) (by decide) (by have q0 := hz38.1; have p0 := hz38.2; exact zR_mk (by omega) (by omega)) dX12_decides_76 (fun H locs Wd => ?_)
      replace Wd := zW.mem Wd (show _ = (zrow (zrow zM0 399 (zup (zup (zup (zup (zup (zM0 399) (96 + 47 * x0 + 6) 0) (96 + 47 * x0 + 4) 114) ((72 + (4 * ((zM0 399) (96 + 47 * x0 + 2)))) + 2) (((zM0 399) ((72 + (4 * ((zM0 399) (96 + 47 * x0 + 2)))) + 2)) + 1)) ((72 + (4 * ((zM0 399) (96 + 47 * x0 + 2)))) + 3) (((zM0 399) (96 + 47 * x0 + 3)) + 1)) 6 (((zM0 399) 6) + 1))) 404 w_r3) from ((zu_zrow_ne (by decide)).trans (zrow_c 404 w_r3 (zu_zrow zM0 399 (zup (zup (zup (zup (zM0 399) (96 + 47 * x0 + 6) 0) (96 + 47 * x0 + 4) 114) ((72 + (4 * ((zM0 399) (96 + 47 * x0 + 2)))) + 2) (((zM0 399) ((72 + (4 * ((zM0 399) (96 + 47 * x0 + 2)))) + 2)) + 1)) ((72 + (4 * ((zM0 399) (96 + 47 * x0 + 2)))) + 3) (((zM0 399) (96 + 47 * x0 + 3)) + 1)) 6 (((zM0 399) 6) + 1)))))
      refine z_goto C0 (tgt := 128) dX12_decides_77 (by decide) ?_
      exact z_vret C0 Wd hret hlk ⟨_, by first | (rw [zDe, if_pos (by assumption)]; done) | (rw [zDe, if_neg (by assumption)]; first | (rw [if_pos (by assumption)]; done) | (rw [if_neg (by assumption)]; done)), rfl⟩ dX12_decides_128
