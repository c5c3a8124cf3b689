/-! the class: deliveries -/
theorem kv_X10_isUnderstood : zKV yX10_isUnderstood cX10_isUnderstood 6 (some .boolean) "DrumWarren$State" 1 := ⟨zk_744, zk_743, zk_9, zk_26, by decide, by decide, by decide +kernel⟩
set_option maxHeartbeats 4000000 in
set_option maxRecDepth 100000 in
theorem ct_X10_isUnderstood (l : Launch) (g : zG) (zX : va_W) (ad : Int → Nat) (zM0 zF0 : zMem) (b : Int) (hb : zB b) (V : Int → Int) (zt : Int) (pp : Int) (hR : zRS b V zM0 zF0) (hI : zIV zt V) (hp : 0 ≤ pp ∧ pp < V 2) (ht : zt ≤ 100000000) (h6 : V (96 + 47 * pp + 6) = 5) (hh : ∀ q c, 0 ≤ q → q < 5 → zbt (V (96 + 47 * pp + 3)) q = 1 → zc8 c → V (96 + 47 * pp + (7 + 8 * q + c)) = 0 ∨ (V 4 - 20 ≤ V (96 + 47 * pp + (7 + 8 * q + c)) - 1 ∧ V (96 + 47 * pp + (7 + 8 * q + c)) - 1 ≤ V 4 + 80)) : zMt l yX10_isUnderstood cX10_isUnderstood 6 (some .boolean) 3 0 0 g (0, 398, zX) ad [.ref (ad b), .ref (ad (zF0 (b + 6) pp))] zM0 zF0 (zPi (fun r M' F' => zb (zAr pp V = true) = r ∧ zM0 = M' ∧ zF0 = F')) := by
  refine zMt.of "DrumWarren$State" rfl (by decide +kernel) (Nat.le_of_ble_eq_true rfl) (fun {p e s m args below meth c ls} C0 Wd hl hret hlk hin => ?_)
  have hl : lv_has ls 6 [(0, .ref (ad b)), (1, .ref (ad (zF0 (b + 6) pp)))] := hl
  have h0b := hI.1
  have h1b := hI.2.1
  have h2b := hI.2.2.1
  have hTb := hI.2.2.2.2.1
  have hbb := zB_bd hb
  have hmo := hR.mo hp.1 (show pp < 8 by omega)
  have hbd := zMo_bd hmo
  obtain ⟨q0, q1, q2, q3, -, q5, -, q7, q8⟩ := hI.2.2.2.2.2.2.1 pp hp.1 hp.2
  have hhr := hI.2.2.2.2.2.1 _ q2.1 q2.2
  have hhs := (hI.2.2.2.2.2.1 _ q1.1 q1.2).1
  have hcb := zcd_bd q3.1 q3.2
  have h4b := hI.2.2.2.1 4 (by decide) (by decide)
  have hro : zc8 (zrc V pp) := ⟨hhr.1.1, Int.lt_of_lt_of_le hhr.1.2 h0b.2⟩
  refine z_aload_n C0 hl 0 rfl dX10_isUnderstood_0 ?_
  refine z_aload_n C0 hl 1 rfl dX10_isUnderstood_1 ?_
  refine zg_6_2 C0 Wd (znO (hR.mo (by omega) (by omega))) (zkO (hR.mo (by omega) (by omega))) zk_161 dX10_isUnderstood_2 ?_
  obtain ⟨he2, hz1⟩ : (zM0 (zF0 (b + 6) pp) 2) = (V (96 + 47 * pp + 2)) ∧ zR (V (96 + 47 * pp + 2)) := (fun q => ⟨q, q ▸ Wd.rm _ _⟩) (hR.m2 (by omega) (by omega))
  refine z_top (congrArg zI he2) ?_
  clear he2
  refine z_invVi (As := [.int (zI (V (96 + 47 * pp + 2)))]) (rest := []) C0 Wd (ct_X10_placeOf l g zX ad zM0 zF0 b hb V zt (V (96 + 47 * pp + 2)) hz1 hR hI) kv_X10_placeOf (znB0 hb) (zE_7 (zkB0 hb)) rfl zk_697 rfl hl.1 rfl (Nat.le_of_ble_eq_true rfl) (by decide) (by decide) dX10_isUnderstood_5 (fun r3 zMr3 zFr3 H locs hrr3 hp Wd => ?_)
  rcases hp with ⟨hr3_0_0, rfl, rfl, rfl⟩ | ⟨hr3_1_0, rfl, rfl, rfl⟩
  · skip
    refine z_istore_n C0 hl [(2, .int (zI (V (72 + 4 * (V (96 + 47 * pp + 2)) + 0)))), (0, .ref (ad b)), (1, .ref (ad (zF0 (b + 6) pp)))] (by decide) rfl dX10_isUnderstood_8 (fun ls hl => ?_)
    refine z_aload_n C0 hl 1 rfl dX10_isUnderstood_9 ?_
    refine z_aload_n C0 hl 2 rfl dX10_isUnderstood_10 ?_
    refine zg_6_2 C0 Wd (znO (hR.mo (by omega) (by omega))) (zkO (hR.mo (by omega) (by omega))) zk_161 dX10_isUnderstood_11 ?_
    obtain ⟨he6, hz5⟩ : (zM0 (zF0 (b + 6) pp) 2) = (V (96 + 47 * pp + 2)) ∧ zR (V (96 + 47 * pp + 2)) := (fun q => ⟨q, q ▸ Wd.rm _ _⟩) (hR.m2 (by omega) (by omega))
    refine z_top (congrArg zI he6) ?_
    clear he6
    refine z_invVi (As := [.int (zI (V (96 + 47 * pp + 2)))]) (rest := []) C0 Wd (ct_X10_listens l g zX ad zM0 zF0 b hb V zt (V (96 + 47 * pp + 2)) hz5 hR hI) kv_X10_listens (znB0 hb) (zE_7 (zkB0 hb)) rfl zk_745 rfl hl.1 rfl (Nat.le_of_ble_eq_true rfl) (by decide) (by decide) dX10_isUnderstood_14 (fun r7 zMr7 zFr7 H locs hrr7 hp Wd => ?_)
    rcases hp with ⟨hr7_0_0, rfl, rfl, rfl⟩ | ⟨hr7_1_0, rfl, rfl, rfl⟩
    · skip
      refine z_if_eq C0 (tgt := 42) hrr7 dX10_isUnderstood_17 (by decide) (fun c9 => ?_) (fun c9 => ?_)
      · skip
        refine z_iconst C0 dX10_isUnderstood_42 ?_
        exact z_zret C0 Wd hret hlk (by decide) ⟨by rw [zb_f (fun z => by obtain ⟨⟨z1, z2⟩, z3⟩ := zAr_iff.mp z; have z2b : zBF V (V (72 + 4 * V (96 + 47 * pp + 1) + 0)) (V (72 + 4 * V (96 + 47 * pp + 2) + 0)) < 1000 := z2; omega)], rfl, rfl⟩ dX10_isUnderstood_43
      · skip
        refine z_aload_n C0 hl 1 rfl dX10_isUnderstood_20 ?_
        refine zg_7_0 C0 Wd (znB0 hb) (zkB0 hb) zk_193 dX10_isUnderstood_21 ?_
        refine z_aload_n C0 hl 1 rfl dX10_isUnderstood_24 ?_
        refine z_aload_n C0 hl 2 rfl dX10_isUnderstood_25 ?_
        refine zg_6_1 C0 Wd (znO (hR.mo (by omega) (by omega))) (zkO (hR.mo (by omega) (by omega))) zk_158 dX10_isUnderstood_26 ?_
        obtain ⟨he11, hz10⟩ : (zM0 (zF0 (b + 6) pp) 1) = (V (96 + 47 * pp + 1)) ∧ zR (V (96 + 47 * pp + 1)) := (fun q => ⟨q, q ▸ Wd.rm _ _⟩) (hR.m1 (by omega) (by omega))
        refine z_top (congrArg zI he11) ?_
        clear he11
        refine z_invVi (As := [.int (zI (V (96 + 47 * pp + 1)))]) (rest := [.ref (ad (b + 1))]) C0 Wd (ct_X10_placeOf l g zX ad zM0 zF0 b hb V zt (V (96 + 47 * pp + 1)) hz10 hR hI) kv_X10_placeOf (znB0 hb) (zE_7 (zkB0 hb)) rfl zk_697 rfl hl.1 rfl (Nat.le_of_ble_eq_true rfl) (by decide) (by decide) dX10_isUnderstood_29 (fun r12 zMr12 zFr12 H locs hrr12 hp Wd => ?_)
        rcases hp with ⟨hr12_0_0, rfl, rfl, rfl⟩ | ⟨hr12_1_0, rfl, rfl, rfl⟩
        · skip
          refine z_iload_n C0 hl 0 rfl dX10_isUnderstood_32 ?_
          refine z_invVi (As := [.int (zI (V (72 + 4 * (V (96 + 47 * pp + 1)) + 0))), .int (zI (V (72 + 4 * (V (96 + 47 * pp + 2)) + 0)))]) (rest := []) C0 Wd (ct_X2_delayOfWay l g zX ad zM0 zF0 b hb V (V (72 + 4 * (V (96 + 47 * pp + 1)) + 0)) hrr12 (V (72 + 4 * (V (96 + 47 * pp + 2)) + 0)) hrr3 hR.B (by omega)) kv_X2_delayOfWay (znB1 hb) (zE_1 (zkB1 hb)) rfl zk_722 rfl hl.1 rfl (Nat.le_of_ble_eq_true rfl) (by decide) (by decide) dX10_isUnderstood_33 (fun r14 zMr14 zFr14 H locs hrr14 hp Wd => ?_)
          rcases hp with ⟨hr14_0_0, rfl, rfl, rfl⟩ | ⟨hr14_1_0, rfl, rfl, rfl⟩
          · skip
            refine z_sipush C0 dX10_isUnderstood_36 (by decide) ?_
            refine z_icmp_ne C0 (tgt := 44) hrr14 (zR_mk (by decide) (by decide)) dX10_isUnderstood_39 (by decide) (fun c16 => ?_) (fun c16 => ?_)
            · skip
              refine z_aload_n C0 hl 2 rfl dX10_isUnderstood_44 ?_
              refine zg_6_3 C0 Wd (znO (hR.mo (by omega) (by omega))) (zkO (hR.mo (by omega) (by omega))) zk_164 dX10_isUnderstood_45 ?_
              obtain ⟨he18, hz17⟩ : (zM0 (zF0 (b + 6) pp) 3) = (V (96 + 47 * pp + 3)) ∧ zR (V (96 + 47 * pp + 3)) := (fun q => ⟨q, q ▸ Wd.rm _ _⟩) (hR.m3 (by omega) (by omega))
              refine z_top (congrArg zI he18) ?_
              clear he18
              refine z_invSN (As := [.int (zI (V (96 + 47 * pp + 3)))]) (rest := []) C0 Wd (ct_X11_codeOf l g zX ad zM0 zF0 (V (96 + 47 * pp + 3)) hz17 (by omega)) kv_X11_codeOf (zc_nm C0 (q := ("DrumWarren$State", 176, ⟨"DrumWarren", "codeOf", "(I)I"⟩, "DrumWarren")) (List.mem_of_getElem? (i := 1) rfl)) rfl hl.1 rfl (Nat.le_of_ble_eq_true rfl) (by decide) (by decide) dX10_isUnderstood_48 (z_kki (fun r19 zMr19 zFr19 H locs hrr19 hp Wd => ?_))
              obtain ⟨rfl, rfl, rfl⟩ := hp
              refine z_istore_n C0 hl [(3, .int (zI (zcd (V (96 + 47 * pp + 3))))), (2, .int (zI (V (72 + 4 * (V (96 + 47 * pp + 2)) + 0)))), (0, .ref (ad b)), (1, .ref (ad (zF0 (b + 6) pp)))] (by decide) rfl dX10_isUnderstood_51 (fun ls hl => ?_)
              have hdl2 : zBF V (zhm V pp) (zrc V pp) < 1000 := by have := zBF_bd (V := V) (a := zhm V pp) hTb (zrc V pp) hro.1 hro.2; show zBF V (V (72 + 4 * V (96 + 47 * pp + 1) + 0)) (V (72 + 4 * V (96 + 47 * pp + 2) + 0)) < 1000; have e9 : zBF V (zhm V pp) (zrc V pp) = zBF V (V (72 + 4 * V (96 + 47 * pp + 1) + 0)) (V (72 + 4 * V (96 + 47 * pp + 2) + 0)) := rfl; omega
              refine z_iconst C0 dX10_isUnderstood_52 ?_
              refine z_istore C0 hl [(4, .int (zI 0)), (3, .int (zI (zcd (V (96 + 47 * pp + 3))))), (2, .int (zI (V (72 + 4 * (V (96 + 47 * pp + 2)) + 0)))), (0, .ref (ad b)), (1, .ref (ad (zF0 (b + 6) pp)))] (by decide) rfl dX10_isUnderstood_53 (fun ls hl => ?_)
              have aft55 : ∀ (k55 : Nat) (hk55 : (k55 : Int) ≤ 5) (hk : ∀ q, 0 ≤ q → q < (k55 : Int) → zOk V pp q) (hx55 : (k55 : Int) = 5) (H : Heap) (locs : List Loc) (ls : Array Slot) (Wd : zW g (zA (0, 398, zX) ad s.heap.size) s.heap (0, 398, zX) ad zM0 zF0 H locs) (hl : lv_has ls 6 [(0, .ref (ad b)), (1, .ref (ad (zF0 (b + 6) pp))), (2, .int (zI (V (72 + 4 * (V (96 + 47 * pp + 2)) + 0)))), (3, .int (zI (zcd (V (96 + 47 * pp + 3))))), (4, .int (zI (k55 : Int)))]), W p l e (zrm 3 0 0) s m args below meth c H locs 0 0 (zMQ below g (0, 398, zX) ad (zPi (fun r M' F' => zb (zAr pp V = true) = r ∧ zM0 = M' ∧ zF0 = F')) args s 0 0) (F0 m 107 ls []) := by
                intro k55 hk55 hk hx55 H locs ls Wd hl
                replace hl : lv_has ls 6 [(0, .ref (ad b)), (1, .ref (ad (zF0 (b + 6) pp))), (2, .int (zI (V (72 + 4 * (V (96 + 47 * pp + 2)) + 0)))), (3, .int (zI (zcd (V (96 + 47 * pp + 3)))))] := lv_sub hl [0, 1, 2, 3] rfl
                refine z_iconst C0 dX10_isUnderstood_107 ?_
                exact z_zret C0 Wd hret hlk (by decide) ⟨by rw [zb_t (zAr_iff.mpr ⟨⟨by omega, hdl2⟩, fun q h0 h1 => hk q h0 (by omega)⟩)], rfl, rfl⟩ dX10_isUnderstood_108
              have lp55 : ∀ (d55 k55 : Nat) (hk55 : (k55 : Int) + d55 = 5) (hk : ∀ q, 0 ≤ q → q < (k55 : Int) → zOk V pp q) (H : Heap) (locs : List Loc) (ls : Array Slot) (Wd : zW g (zA (0, 398, zX) ad s.heap.size) s.heap (0, 398, zX) ad zM0 zF0 H locs) (hl : lv_has ls 6 [(0, .ref (ad b)), (1, .ref (ad (zF0 (b + 6) pp))), (2, .int (zI (V (72 + 4 * (V (96 + 47 * pp + 2)) + 0)))), (3, .int (zI (zcd (V (96 + 47 * pp + 3))))), (4, .int (zI (k55 : Int)))]), W p l e (zrm 3 0 0) s m args below meth c H locs 0 0 (zMQ below g (0, 398, zX) ad (zPi (fun r M' F' => zb (zAr pp V = true) = r ∧ zM0 = M' ∧ zF0 = F')) args s 0 0) (F0 m 55 ls []) := by
                intro d55
                induction d55 with
                | zero =>
                  intro k55 hk55 hk H locs ls Wd hl
                  skip
                  refine z_iload C0 hl 4 rfl dX10_isUnderstood_55 ?_
                  refine z_iconst C0 dX10_isUnderstood_57 ?_
                  refine z_icmp_ge C0 (tgt := 107) (zR_mk (by omega) (by omega)) (zR_mk (by decide) (by decide)) dX10_isUnderstood_58 (by decide) (fun c21 => ?_) (fun c21 => ?_)
                  · skip
                    first | exact aft55 k55 (by omega) hk (by first | assumption | omega) _ _ _ Wd (lv_sub hl [0, 1, 2, 3, 4] rfl) | (exfalso; omega)
                  · skip
                    exfalso; omega
                | succ d55 ih55 =>
                  intro k55 hk55 hk H locs ls Wd hl
                  skip
                  refine z_iload C0 hl 4 rfl dX10_isUnderstood_55 ?_
                  refine z_iconst C0 dX10_isUnderstood_57 ?_
                  refine z_icmp_ge C0 (tgt := 107) (zR_mk (by omega) (by omega)) (zR_mk (by decide) (by decide)) dX10_isUnderstood_58 (by decide) (fun c22 => ?_) (fun c22 => ?_)
                  · skip
                    first | exact aft55 k55 (by omega) hk (by first | assumption | omega) _ _ _ Wd (lv_sub hl [0, 1, 2, 3, 4] rfl) | (exfalso; omega)
                  · skip
                    have hbz := zbt_is (n := V (96 + 47 * pp + 3)) (b := (k55 : Int)) q3 ⟨by omega, by omega⟩
                    refine z_iload_n C0 hl 3 rfl dX10_isUnderstood_61 ?_
                    refine z_iload C0 hl 4 rfl dX10_isUnderstood_62 ?_
                    refine z_invSN (As := [.int (zI (zcd (V (96 + 47 * pp + 3)))), .int (zI (k55 : Int))]) (rest := []) C0 Wd (ct_X11_isOne l g zX ad zM0 zF0 (zcd (V (96 + 47 * pp + 3))) hrr19 (k55 : Int) (zR_mk (by omega) (by omega)) (by omega) (by omega)) kv_X11_isOne (zc_nm C0 (q := ("DrumWarren$State", 179, ⟨"DrumWarren", "isOne", "(II)Z"⟩, "DrumWarren")) (List.mem_of_getElem? (i := 2) rfl)) rfl hl.1 rfl (Nat.le_of_ble_eq_true rfl) (by decide) (by decide) dX10_isUnderstood_64 (z_kki (fun r23 zMr23 zFr23 H locs hrr23 hp Wd => ?_))
                    obtain ⟨rfl, rfl, rfl⟩ := hp
                    refine z_if_eq_b C0 (tgt := 101) dX10_isUnderstood_67 (by decide) (fun c25 => ?_) (fun c25 => ?_)
                    · skip
                      refine z_iinc C0 hl 4 (t := (k55 : Int)) (u := ((k55 : Int) + 1)) rfl (by omega) [(4, .int (zI ((k55 : Int) + 1))), (0, .ref (ad b)), (1, .ref (ad (zF0 (b + 6) pp))), (2, .int (zI (V (72 + 4 * (V (96 + 47 * pp + 2)) + 0)))), (3, .int (zI (zcd (V (96 + 47 * pp + 3)))))] (by decide) rfl dX10_isUnderstood_101 (fun ls hl => ?_)
                      refine z_goto C0 (tgt := 55) dX10_isUnderstood_104 (by decide) ?_
                      exact ih55 (k55 + 1) (by omega) (fun q h0 h1 => by by_cases e : q = (k55 : Int) <;> first | (rw [e]; intro z; rw [← hbz] at z; exact absurd z (by assumption)) | exact hk q h0 (by omega)) _ _ _ Wd (lv_sub hl [1, 2, 3, 4, 0] rfl)
                    · skip
                      have hz1 : zbt (V (96 + 47 * pp + 3)) (k55 : Int) = 1 := by rw [← hbz]; assumption
                      have hh9 := hh (k55 : Int) (zrc V pp) (by omega) (by omega) hz1 hro
                      have hm9 := (hR.2.2.2.2.2.1 pp hp.1 hp.2).2 (k55 : Int) (zrc V pp) (by omega) (by omega) hz1 hro
                      have ei9 : 96 + 47 * pp + 7 + 8 * (k55 : Int) + zrc V pp = 96 + 47 * pp + (7 + 8 * (k55 : Int) + zrc V pp) := by omega
                      rw [ei9] at hm9
                      have hq9 := q8 (7 + 8 * (k55 : Int) + zrc V pp) (by have := hro.1; omega) (by have := hro.2; omega)
                      refine z_aload_n C0 hl 1 rfl dX10_isUnderstood_70 ?_
                      refine z_iload C0 hl 4 rfl dX10_isUnderstood_71 ?_
                      refine z_iload_n C0 hl 2 rfl dX10_isUnderstood_73 ?_
                      refine z_invVi (As := [.int (zI (k55 : Int)), .int (zI (V (72 + 4 * (V (96 + 47 * pp + 2)) + 0)))]) (rest := []) C0 Wd (ct_X9_tickHeard l g zX ad zM0 zF0 b (zF0 (b + 6) pp) (hR.mo (by omega) (by omega)) (k55 : Int) (zR_mk (by omega) (by omega)) (V (72 + 4 * (V (96 + 47 * pp + 2)) + 0)) hrr3 ⟨⟨by omega, by omega⟩, hro.1, hro.2⟩) kv_X9_tickHeard (znO (hR.mo (by omega) (by omega))) (zE_6 (zkO (hR.mo (by omega) (by omega)))) rfl zk_746 rfl hl.1 rfl (Nat.le_of_ble_eq_true rfl) (by decide) (by decide) dX10_isUnderstood_74 (fun r26 zMr26 zFr26 H locs hrr26 hp Wd => ?_)
                      obtain ⟨rfl, rfl, rfl⟩ := hp
                      refine z_top (show zI (zM0 (zF0 (b + 6) pp + 1) ((k55 : Int) * 8 + V (72 + 4 * V (96 + 47 * pp + 2) + 0))) = zI (V (96 + 47 * pp + (7 + 8 * (k55 : Int) + zrc V pp)) - 1) by rw [Int.mul_comm (k55 : Int) 8]; exact congrArg zI hm9) ?_
                      refine z_istore C0 hl [(5, .int (zI (V (96 + 47 * pp + (7 + 8 * (k55 : Int) + zrc V pp)) - 1))), (0, .ref (ad b)), (1, .ref (ad (zF0 (b + 6) pp))), (2, .int (zI (V (72 + 4 * (V (96 + 47 * pp + 2)) + 0)))), (3, .int (zI (zcd (V (96 + 47 * pp + 3))))), (4, .int (zI (k55 : Int)))] (by decide) rfl dX10_isUnderstood_77 (fun ls hl => ?_)
                      refine z_iload C0 hl 0 rfl dX10_isUnderstood_79 ?_
                      refine z_iconst C0 dX10_isUnderstood_81 ?_
                      refine z_icmp_eq C0 (tgt := 99) (zR_mk (by omega) (by omega)) (zR_mk (by decide) (by decide)) dX10_isUnderstood_82 (by decide) (fun c28 => ?_) (fun c28 => ?_)
                      · skip
                        refine z_iconst C0 dX10_isUnderstood_99 ?_
                        exact z_zret C0 Wd hret hlk (by decide) ⟨by rw [zb_f (fun z => by obtain ⟨⟨z1, z2⟩, z3⟩ := zAr_iff.mp z; have z9 := z3 (k55 : Int) (by omega) (by omega) hz1; omega)], rfl, rfl⟩ dX10_isUnderstood_100
                      · skip
                        refine z_aload_n C0 hl 1 rfl dX10_isUnderstood_85 ?_
                        refine zg_7_6 C0 Wd (znB0 hb) (zkB0 hb) zk_204 dX10_isUnderstood_86 ?_
                        refine z_iload_n C0 hl 3 rfl dX10_isUnderstood_89 ?_
                        refine z_iload C0 hl 0 rfl dX10_isUnderstood_90 ?_
                        refine z_invVi (As := [.int (zI (V (72 + 4 * (V (96 + 47 * pp + 2)) + 0))), .int (zI (V (96 + 47 * pp + (7 + 8 * (k55 : Int) + zrc V pp)) - 1))]) (rest := []) C0 Wd (ct_X1_thumpsIn l g zX ad zM0 zF0 b hb (V (72 + 4 * (V (96 + 47 * pp + 2)) + 0)) hrr3 (V (96 + 47 * pp + (7 + 8 * (k55 : Int) + zrc V pp)) - 1) (zR_mk (by omega) (by omega)) hro) kv_X1_thumpsIn (znB7 hb) (zE_0 (zkB7 hb)) rfl zk_750 rfl hl.1 rfl (Nat.le_of_ble_eq_true rfl) (by decide) (by decide) dX10_isUnderstood_92 (fun r29 zMr29 zFr29 H locs hrr29 hp Wd => ?_)
                        obtain ⟨rfl, rfl, rfl⟩ := hp
                        have ha9 := hR.2.2.2.2.2.2 (zrc V pp) (V (96 + 47 * pp + (7 + 8 * (k55 : Int) + zrc V pp)) - 1) hro (by omega) (by omega)
                        refine z_top (show zI (zM0 (b + 8) (zrc V pp * 128 + (V (96 + 47 * pp + (7 + 8 * (k55 : Int) + zrc V pp)) - 1) % 128)) = zI (V (472 + 128 * zrc V pp + (V (96 + 47 * pp + (7 + 8 * (k55 : Int) + zrc V pp)) - 1) % 128)) by rw [Int.mul_comm (zrc V pp) 128]; exact congrArg zI ha9) ?_
                        have hrb9 := hI.2.2.2.2.2.2.2 (472 + 128 * zrc V pp + (V (96 + 47 * pp + (7 + 8 * (k55 : Int) + zrc V pp)) - 1) % 128) (by have := hro.1; omega) (by have := hro.2; omega)
                        refine z_iconst C0 dX10_isUnderstood_95 ?_
                        refine z_icmp_eq C0 (tgt := 101) (zR_mk (by omega) (by omega)) (zR_mk (by decide) (by decide)) dX10_isUnderstood_96 (by decide) (fun c31 => ?_) (fun c31 => ?_)
                        · skip
                          refine z_iinc C0 hl 5 (t := (k55 : Int)) (u := ((k55 : Int) + 1)) rfl (by omega) [(4, .int (zI ((k55 : Int) + 1))), (5, .int (zI (V (96 + 47 * pp + (7 + 8 * (k55 : Int) + zrc V pp)) - 1))), (0, .ref (ad b)), (1, .ref (ad (zF0 (b + 6) pp))), (2, .int (zI (V (72 + 4 * (V (96 + 47 * pp + 2)) + 0)))), (3, .int (zI (zcd (V (96 + 47 * pp + 3)))))] (by decide) rfl dX10_isUnderstood_101 (fun ls hl => ?_)
                          refine z_goto C0 (tgt := 55) dX10_isUnderstood_104 (by decide) ?_
                          exact ih55 (k55 + 1) (by omega) (fun q h0 h1 => by by_cases e : q = (k55 : Int) <;> first | (rw [e]; intro z; exact ⟨by omega, by assumption⟩) | exact hk q h0 (by omega)) _ _ _ Wd (lv_sub hl [2, 3, 4, 5, 0] rfl)
                        · skip
                          refine z_iconst C0 dX10_isUnderstood_99 ?_
                          exact z_zret C0 Wd hret hlk (by decide) ⟨by rw [zb_f (fun z => by obtain ⟨⟨z1, z2⟩, z3⟩ := zAr_iff.mp z; have z9 := z3 (k55 : Int) (by omega) (by omega) hz1; omega)], rfl, rfl⟩ dX10_isUnderstood_100
              exact lp55 5 0 (by omega) (fun q h0 h1 => by omega) _ _ _ Wd (lv_sub hl [3, 4, 2, 1, 0] rfl)
            · skip
              refine z_iconst C0 dX10_isUnderstood_42 ?_
              exact z_zret C0 Wd hret hlk (by decide) ⟨by rw [zb_f (fun z => by obtain ⟨⟨z1, z2⟩, z3⟩ := zAr_iff.mp z; have z2b : zBF V (V (72 + 4 * V (96 + 47 * pp + 1) + 0)) (V (72 + 4 * V (96 + 47 * pp + 2) + 0)) < 1000 := z2; omega)], rfl, rfl⟩ dX10_isUnderstood_43
          · skip
            exfalso; omega
        · skip
          exfalso; omega
    · skip
      exfalso; omega
  · skip
    exfalso; omega
set_option maxHeartbeats 4000000 in
set_option maxRecDepth 100000 in
theorem ct_X10_hasHare_2 (l : Launch) (g : zG) (zX : va_W) (ad : Int → Nat) (zM0 zF0 : zMem) (b : Int) (hb : zB b) (V : Int → Int) (x0 : Int) (hx0 : zR x0) (h2 : zM0 b 2 = V 1) : zMt l yX10_hasHare cX10_hasHare 2 (some .boolean) 0 0 0 g (0, 398, zX) ad [.ref (ad b), .int (zI x0)] zM0 zF0 (zPi (fun r M' F' => zb (0 ≤ x0 ∧ x0 < V 1) = r ∧ zM0 = M' ∧ zF0 = F')) := by
  refine zMt.of "DrumWarren$State" rfl (by decide +kernel) (Nat.le_of_ble_eq_true rfl) (fun {p e s m args below meth c ls} C0 Wd hl hret hlk hin => ?_)
  have hl : lv_has ls 2 [(0, .ref (ad b)), (1, .int (zI x0))] := hl
  refine z_iload_n C0 hl 1 rfl dX10_hasHare_0 ?_
  refine z_if_lt C0 (tgt := 16) hx0 dX10_hasHare_1 (by decide) (fun c1 => ?_) (fun c1 => ?_)
  · skip
    refine z_iconst C0 dX10_hasHare_16 ?_
    exact z_zret C0 Wd hret hlk (by decide) ⟨by first | rfl | (rw [zb_t (by omega)]; done) | (rw [zb_f (by omega)]; done), rfl, rfl⟩ dX10_hasHare_17
  · skip
    refine z_iload_n C0 hl 1 rfl dX10_hasHare_4 ?_
    refine z_aload_n C0 hl 0 rfl dX10_hasHare_5 ?_
    refine zg_7_2 C0 Wd (znB0 hb) (zkB0 hb) zk_196 dX10_hasHare_6 ?_
    have hz2 : zR (zM0 b 2) := Wd.rm _ _
    refine z_icmp_ge C0 (tgt := 16) hx0 hz2 dX10_hasHare_9 (by decide) (fun c3 => ?_) (fun c3 => ?_)
    · skip
      refine z_iconst C0 dX10_hasHare_16 ?_
      exact z_zret C0 Wd hret hlk (by decide) ⟨by first | rfl | (rw [zb_t (by omega)]; done) | (rw [zb_f (by omega)]; done), rfl, rfl⟩ dX10_hasHare_17
    · skip
      refine z_iconst C0 dX10_hasHare_12 ?_
      refine z_goto C0 (tgt := 17) dX10_hasHare_13 (by decide) ?_
      exact z_zret C0 Wd hret hlk (by decide) ⟨by first | rfl | (rw [zb_t (by omega)]; done) | (rw [zb_f (by omega)]; done), rfl, rfl⟩ dX10_hasHare_17
theorem kv_X10_deliver : zKV yX10_deliver cX10_deliver 3 none "DrumWarren$State" 1 := ⟨zk_757, zk_756, zk_10, zk_26, by decide, by decide, by decide +kernel⟩
set_option maxHeartbeats 4000000 in
set_option maxRecDepth 100000 in
theorem ct_X10_deliver (l : Launch) (g : zG) (zX : va_W) (ad : Int → Nat) (zM0 zF0 : zMem) (b : Int) (hb : zB b) (V : Int → Int) (zt : Int) (pp : Int) (hR : zRS b V zM0 zF0) (hI : zIV zt V) (hp : 0 ≤ pp ∧ pp < V 2) (ht : zt ≤ 100000000) : zMt l yX10_deliver cX10_deliver 3 none 1 0 0 g (0, 398, zX) ad [.ref (ad b), .ref (ad (zF0 (b + 6) pp))] zM0 zF0 (zPv (fun M' F' => (zu (zu (zu (zu (zu zM0 (zF0 (b + 6) pp) 4 114) (zF0 (b + 6) pp) 6 0) b 9 (V 6 + 1)) (b + 9 + V (96 + 47 * pp + 2)) 2 (V (72 + 4 * V (96 + 47 * pp + 2) + 2) + 1)) (b + 9 + V (96 + 47 * pp + 2)) 3 (V (96 + 47 * pp + 3))) = M' ∧ zF0 = F')) := by
  refine zMt.of "DrumWarren$State" rfl (by decide +kernel) (Nat.le_of_ble_eq_true rfl) (fun {p e s m args below meth c ls} C0 Wd hl hret hlk hin => ?_)
  have hl : lv_has ls 3 [(0, .ref (ad b)), (1, .ref (ad (zF0 (b + 6) pp)))] := hl
  have h0b := hI.1
  have h1b := hI.2.1
  have h2b := hI.2.2.1
  have hTb := hI.2.2.2.2.1
  have hbb := zB_bd hb
  have hmo := hR.mo hp.1 (show pp < 8 by omega)
  have hbd := zMo_bd hmo
  obtain ⟨q0, q1, q2, q3, -, q5, -, q7, q8⟩ := hI.2.2.2.2.2.2.1 pp hp.1 hp.2
  have hhr := hI.2.2.2.2.2.1 _ q2.1 q2.2
  have h6b := hI.2.2.2.1 6 (by decide) (by decide)
  refine z_aload_n C0 hl 1 rfl dX10_deliver_0 ?_
  refine z_invVv (As := []) (rest := []) C0 Wd (ct_X9_arrive l g zX ad zM0 zF0 b (zF0 (b + 6) pp) (hR.mo (by omega) (by omega))) kv_X9_arrive (znO (hR.mo (by omega) (by omega))) (zE_6 (zkO (hR.mo (by omega) (by omega)))) rfl zk_758 rfl hl.1 rfl (Nat.le_of_ble_eq_true rfl) (by decide) (by decide) dX10_deliver_1 (fun zMr1 zFr1 H locs hp Wd => ?_)
  obtain ⟨rfl, rfl⟩ := hp
  refine z_aload_n C0 hl 0 rfl dX10_deliver_4 ?_
  refine z_dup C0 rfl dX10_deliver_5 ?_
  refine zg_7_9 C0 Wd (znB0 hb) (zkB0 hb) zk_210 dX10_deliver_6 ?_
  obtain ⟨he4, hz3⟩ : ((zu (zu zM0 (zF0 (b + 6) pp) 4 114) (zF0 (b + 6) pp) 6 0) b 9) = (V 6) ∧ zR (V 6) := (fun q => ⟨q, q ▸ Wd.rm _ _⟩) ((zu_ne (by omega)).trans ((zu_ne (by omega)).trans hR.c9))
  refine z_top (congrArg zI he4) ?_
  clear he4
  refine z_iconst C0 dX10_deliver_9 ?_
  refine z_iadd C0 dX10_deliver_10 ?_
  refine zp_7_9 C0 Wd (znB0 hb) (zkB0 hb) (by have q0 := hz3.1; have p0 := hz3.2; exact zR_mk (by omega) (by omega)) zk_210 dX10_deliver_11 (fun H locs Wd => ?_)
  refine z_aload_n C0 hl 0 rfl dX10_deliver_14 ?_
  refine z_aload_n C0 hl 1 rfl dX10_deliver_15 ?_
  refine zg_6_2 C0 Wd (znO (hR.mo (by omega) (by omega))) (zkO (hR.mo (by omega) (by omega))) zk_161 dX10_deliver_16 ?_
  obtain ⟨he6, hz5⟩ : ((zu (zu (zu zM0 (zF0 (b + 6) pp) 4 114) (zF0 (b + 6) pp) 6 0) b 9 ((V 6) + 1)) (zF0 (b + 6) pp) 2) = (V (96 + 47 * pp + 2)) ∧ zR (V (96 + 47 * pp + 2)) := (fun q => ⟨q, q ▸ Wd.rm _ _⟩) ((zu_ne (by omega)).trans ((zu_ne (by omega)).trans ((zu_ne (by omega)).trans (hR.m2 (by omega) (by omega)))))
  refine z_top (congrArg zI he6) ?_
  clear he6
  refine z_invVi (As := [.int (zI (V (96 + 47 * pp + 2)))]) (rest := []) C0 Wd (ct_X10_hasHare_2 l g zX ad (zu (zu (zu zM0 (zF0 (b + 6) pp) 4 114) (zF0 (b + 6) pp) 6 0) b 9 ((V 6) + 1)) zF0 b hb V (V (96 + 47 * pp + 2)) hz5 (by rw [zu_ne (by omega), zu_ne (by omega), zu_ne (by omega)]; exact hR.c2)) kv_X10_hasHare (znB0 hb) (zE_7 (zkB0 hb)) rfl zk_632 rfl hl.1 rfl (Nat.le_of_ble_eq_true rfl) (by decide) (by decide) dX10_deliver_19 (fun r7 zMr7 zFr7 H locs hrr7 hp Wd => ?_)
  obtain ⟨rfl, rfl, rfl⟩ := hp
  refine z_if_eq_b C0 (tgt := 53) dX10_deliver_22 (by decide) (fun c9 => absurd c9 (fun z => z (by omega))) (fun c9 => ?_)
  refine z_aload_n C0 hl 0 rfl dX10_deliver_25 ?_
  refine zg_7_1 C0 Wd (znB0 hb) (zkB0 hb) zk_195 dX10_deliver_26 ?_
  refine z_aload_n C0 hl 1 rfl dX10_deliver_29 ?_
  refine zg_6_2 C0 Wd (znO (hR.mo (by omega) (by omega))) (zkO (hR.mo (by omega) (by omega))) zk_161 dX10_deliver_30 ?_
  obtain ⟨he11, hz10⟩ : ((zu (zu (zu zM0 (zF0 (b + 6) pp) 4 114) (zF0 (b + 6) pp) 6 0) b 9 ((V 6) + 1)) (zF0 (b + 6) pp) 2) = (V (96 + 47 * pp + 2)) ∧ zR (V (96 + 47 * pp + 2)) := (fun q => ⟨q, q ▸ Wd.rm _ _⟩) ((zu_ne (by omega)).trans ((zu_ne (by omega)).trans ((zu_ne (by omega)).trans (hR.m2 (by omega) (by omega)))))
  refine z_top (congrArg zI he11) ?_
  clear he11
  refine z_aald15 C0 Wd (znB5 hb) (zkB5 hb) (zlB5 hb) (by omega) (by omega) (by decide) dX10_deliver_33 ?_
  refine z_rf (show ((b + 5) + 4 + (V (96 + 47 * pp + 2))) = (b + 9 + (V (96 + 47 * pp + 2))) by omega) ?_
  refine z_astore_n C0 hl [(2, .ref (ad (b + 9 + (V (96 + 47 * pp + 2))))), (0, .ref (ad b)), (1, .ref (ad (zF0 (b + 6) pp)))] (by decide) rfl dX10_deliver_34 (fun ls hl => ?_)
  refine z_aload_n C0 hl 0 rfl dX10_deliver_35 ?_
  refine z_dup C0 rfl dX10_deliver_36 ?_
  refine zg_4_2 C0 Wd (znBh hb (by omega) (by omega)) (zkBh hb (by omega) (by omega)) zk_137 dX10_deliver_37 ?_
  obtain ⟨he13, hz12⟩ : ((zu (zu (zu zM0 (zF0 (b + 6) pp) 4 114) (zF0 (b + 6) pp) 6 0) b 9 ((V 6) + 1)) (b + 9 + (V (96 + 47 * pp + 2))) 2) = (V (72 + 4 * (V (96 + 47 * pp + 2)) + 2)) ∧ zR (V (72 + 4 * (V (96 + 47 * pp + 2)) + 2)) := (fun q => ⟨q, q ▸ Wd.rm _ _⟩) ((zu_ne (by omega)).trans ((zu_ne (by omega)).trans ((zu_ne (by omega)).trans (hR.h2 (by omega) (by omega)))))
  refine z_top (congrArg zI he13) ?_
  clear he13
  refine z_iconst C0 dX10_deliver_40 ?_
  refine z_iadd C0 dX10_deliver_41 ?_
  refine zp_4_2 C0 Wd (znBh hb (by omega) (by omega)) (zkBh hb (by omega) (by omega)) (by have q0 := hz12.1; have p0 := hz12.2; exact zR_mk (by omega) (by omega)) zk_137 dX10_deliver_42 (fun H locs Wd => ?_)
  refine z_aload_n C0 hl 0 rfl dX10_deliver_45 ?_
  refine z_aload_n C0 hl 2 rfl dX10_deliver_46 ?_
  refine zg_6_3 C0 Wd (znO (hR.mo (by omega) (by omega))) (zkO (hR.mo (by omega) (by omega))) zk_164 dX10_deliver_47 ?_
  obtain ⟨he15, hz14⟩ : ((zu (zu (zu (zu zM0 (zF0 (b + 6) pp) 4 114) (zF0 (b + 6) pp) 6 0) b 9 ((V 6) + 1)) (b + 9 + (V (96 + 47 * pp + 2))) 2 ((V (72 + 4 * (V (96 + 47 * pp + 2)) + 2)) + 1)) (zF0 (b + 6) pp) 3) = (V (96 + 47 * pp + 3)) ∧ zR (V (96 + 47 * pp + 3)) := (fun q => ⟨q, q ▸ Wd.rm _ _⟩) ((zu_ne (by omega)).trans ((zu_ne (by omega)).trans ((zu_ne (by omega)).trans ((zu_ne (by omega)).trans (hR.m3 (by omega) (by omega))))))
  refine z_top (congrArg zI he15) ?_
  clear he15
  refine zp_4_3 C0 Wd (znBh hb (by omega) (by omega)) (zkBh hb (by omega) (by omega)) hz14 zk_139 dX10_deliver_50 (fun H locs Wd => ?_)
  exact z_vret C0 Wd hret hlk ⟨by first | rfl | (simp [zb, *]; done), rfl⟩ dX10_deliver_53
theorem kv_X10_decideDeliveries : zKV yX10_decideDeliveries cX10_decideDeliveries 3 none "DrumWarren$State" 0 := ⟨zk_740, zk_739, zk_8, zk_26, by decide, by decide, by decide +kernel⟩
set_option maxHeartbeats 4000000 in
set_option maxRecDepth 100000 in
theorem ct_X10_decideDeliveries (l : Launch) (g : zG) (zX : va_W) (ad : Int → Nat) (zM0 zF0 : zMem) (b : Int) (hb : zB b) (V : Int → Int) (zt : Int) (hR : zRS b V zM0 zF0) (hI : zIV zt V) (hP1 : zPk (fun _ => 1) V) (ht : zt ≤ 90000000) : zMt l yX10_decideDeliveries cX10_decideDeliveries 3 none 4 0 0 g (0, 398, zX) ad [.ref (ad b)] zM0 zF0 (zPv (fun M' F' => (∃ M1 : zMem, (zRS b (zTkC V) M1 zF0) ∧ (zOut b zM0 zF0 M1 zF0) ∧ M1 = M' ∧ zF0 = F'))) := by
  refine zMt.of "DrumWarren$State" rfl (by decide +kernel) (Nat.le_of_ble_eq_true rfl) (fun {p e s m args below meth c ls} C0 Wd hl hret hlk hin => ?_)
  have hl : lv_has ls 3 [(0, .ref (ad b))] := hl
  have h0b := hI.1
  have h1b := hI.2.1
  have h2b := hI.2.2.1
  have hbb := zB_bd hb
  refine z_iconst C0 dX10_decideDeliveries_0 ?_
  refine z_istore_n C0 hl [(1, .int (zI 0)), (0, .ref (ad b))] (by decide) rfl dX10_decideDeliveries_1 (fun ls hl => ?_)
  have aft2 : ∀ (k2 : Nat) (hk2 : (k2 : Int) ≤ (V 2)) (M2 : zMem) (w2 : Int → Int) (hw : w2 = zfold (fun p W => if W (96 + 47 * p + 4) = 100 ∧ W (96 + 47 * p + 6) = 5 then zDe p W else W) k2 V) (hr2 : zRS b w2 M2 zF0) (ho2 : zOut b zM0 zF0 M2 zF0) (hx2 : (k2 : Int) = (V 2)) (H : Heap) (locs : List Loc) (ls : Array Slot) (Wd : zW g (zA (0, 398, zX) ad s.heap.size) s.heap (0, 398, zX) ad M2 zF0 H locs) (hl : lv_has ls 3 [(0, .ref (ad b)), (1, .int (zI (k2 : Int)))]), W p l e (zrm 4 0 0) s m args below meth c H locs 0 0 (zMQ below g (0, 398, zX) ad (zPv (fun M' F' => (∃ M1 : zMem, (zRS b (zTkC V) M1 zF0) ∧ (zOut b zM0 zF0 M1 zF0) ∧ M1 = M' ∧ zF0 = F'))) args s 0 0) (F0 m 70 ls []) := by
    intro k2 hk2 M2 w2 hw hr2 ho2 hx2 H locs ls Wd hl
    replace hl : lv_has ls 3 [(0, .ref (ad b))] := lv_sub hl [0] rfl
    obtain ⟨hI2, hk2, hd2⟩ := zTkC_keep hI k2 (by omega)
    have hP2 := zTkC_pk hI hP1 k2 (by omega)
    rw [← hw] at hI2 hk2 hd2 hP2
    have e22 := hk2 2 (by decide) (by decide) (by decide)
    have h1w := hI2.2.1
    have h2w := hI2.2.2.1
    have ek : k2 = (V 2).toNat := by omega
    subst ek
    exact z_vret C0 Wd hret hlk ⟨_, by rw [← show w2 = zTkC V from hw]; exact hr2, ho2, rfl, rfl⟩ dX10_decideDeliveries_70
  have lp2 : ∀ (d2 k2 : Nat) (hk2 : (k2 : Int) + d2 = (V 2)) (M2 : zMem) (w2 : Int → Int) (hw : w2 = zfold (fun p W => if W (96 + 47 * p + 4) = 100 ∧ W (96 + 47 * p + 6) = 5 then zDe p W else W) k2 V) (hr2 : zRS b w2 M2 zF0) (ho2 : zOut b zM0 zF0 M2 zF0) (H : Heap) (locs : List Loc) (ls : Array Slot) (Wd : zW g (zA (0, 398, zX) ad s.heap.size) s.heap (0, 398, zX) ad M2 zF0 H locs) (hl : lv_has ls 3 [(0, .ref (ad b)), (1, .int (zI (k2 : Int)))]), W p l e (zrm 4 0 0) s m args below meth c H locs 0 0 (zMQ below g (0, 398, zX) ad (zPv (fun M' F' => (∃ M1 : zMem, (zRS b (zTkC V) M1 zF0) ∧ (zOut b zM0 zF0 M1 zF0) ∧ M1 = M' ∧ zF0 = F'))) args s 0 0) (F0 m 2 ls []) := by
    intro d2
    induction d2 with
    | zero =>
      intro k2 hk2 M2 w2 hw hr2 ho2 H locs ls Wd hl
      obtain ⟨hI2, hk2, hd2⟩ := zTkC_keep hI k2 (by omega)
      have hP2 := zTkC_pk hI hP1 k2 (by omega)
      rw [← hw] at hI2 hk2 hd2 hP2
      have e22 := hk2 2 (by decide) (by decide) (by decide)
      have h1w := hI2.2.1
      have h2w := hI2.2.2.1
      refine z_iload_n C0 hl 1 rfl dX10_decideDeliveries_2 ?_
      refine z_aload_n C0 hl 0 rfl dX10_decideDeliveries_3 ?_
      refine zg_7_4 C0 Wd (znB0 hb) (zkB0 hb) zk_200 dX10_decideDeliveries_4 ?_
      obtain ⟨he2, hz1⟩ : (M2 b 4) = (w2 2) ∧ zR (w2 2) := (fun q => ⟨q, q ▸ Wd.rm _ _⟩) hr2.c4
      refine z_top (congrArg zI he2) ?_
      clear he2
      refine z_icmp_ge C0 (tgt := 70) (zR_mk (by omega) (by omega)) hz1 dX10_decideDeliveries_7 (by decide) (fun c3 => ?_) (fun c3 => ?_)
      · skip
        first | exact aft2 k2 (by omega) M2 w2 hw hr2 ho2 (by first | assumption | omega) _ _ _ Wd (lv_sub hl [0, 1] rfl) | (exfalso; omega)
      · skip
        exfalso; omega
    | succ d2 ih2 =>
      intro k2 hk2 M2 w2 hw hr2 ho2 H locs ls Wd hl
      obtain ⟨hI2, hk2, hd2⟩ := zTkC_keep hI k2 (by omega)
      have hP2 := zTkC_pk hI hP1 k2 (by omega)
      rw [← hw] at hI2 hk2 hd2 hP2
      have e22 := hk2 2 (by decide) (by decide) (by decide)
      have h1w := hI2.2.1
      have h2w := hI2.2.2.1
      refine z_iload_n C0 hl 1 rfl dX10_decideDeliveries_2 ?_
      refine z_aload_n C0 hl 0 rfl dX10_decideDeliveries_3 ?_
      refine zg_7_4 C0 Wd (znB0 hb) (zkB0 hb) zk_200 dX10_decideDeliveries_4 ?_
      obtain ⟨he5, hz4⟩ : (M2 b 4) = (w2 2) ∧ zR (w2 2) := (fun q => ⟨q, q ▸ Wd.rm _ _⟩) hr2.c4
      refine z_top (congrArg zI he5) ?_
      clear he5
      refine z_icmp_ge C0 (tgt := 70) (zR_mk (by omega) (by omega)) hz4 dX10_decideDeliveries_7 (by decide) (fun c6 => ?_) (fun c6 => ?_)
      · skip
        first | exact aft2 k2 (by omega) M2 w2 hw hr2 ho2 (by first | assumption | omega) _ _ _ Wd (lv_sub hl [0, 1] rfl) | (exfalso; omega)
      · skip
        refine z_aload_n C0 hl 0 rfl dX10_decideDeliveries_10 ?_
        refine zg_7_3 C0 Wd (znB0 hb) (zkB0 hb) zk_198 dX10_decideDeliveries_11 ?_
        refine z_iload_n C0 hl 1 rfl dX10_decideDeliveries_14 ?_
        refine z_aald16 C0 Wd (znB6 hb) (zkB6 hb) (zlB6 hb) (by omega) (by omega) (by decide) dX10_decideDeliveries_15 ?_
        refine z_astore_n C0 hl [(2, .ref (ad (zF0 (b + 6) (k2 : Int)))), (0, .ref (ad b)), (1, .int (zI (k2 : Int)))] (by decide) rfl dX10_decideDeliveries_16 (fun ls hl => ?_)
        refine z_aload_n C0 hl 0 rfl dX10_decideDeliveries_17 ?_
        refine zg_6_4 C0 Wd (znO (hR.mo (by omega) (by omega))) (zkO (hR.mo (by omega) (by omega))) zk_167 dX10_decideDeliveries_18 ?_
        obtain ⟨he8, hz7⟩ : (M2 (zF0 (b + 6) (k2 : Int)) 4) = (w2 (96 + 47 * (k2 : Int) + 4)) ∧ zR (w2 (96 + 47 * (k2 : Int) + 4)) := (fun q => ⟨q, q ▸ Wd.rm _ _⟩) (hr2.m4 (by omega) (by omega))
        refine z_top (congrArg zI he8) ?_
        clear he8
        refine z_bipush C0 dX10_decideDeliveries_21 (by decide) ?_
        refine z_icmp_ne C0 (tgt := 64) hz7 (zR_mk (by decide) (by decide)) dX10_decideDeliveries_23 (by decide) (fun c9 => ?_) (fun c9 => ?_)
        · skip
          refine z_iinc C0 hl 2 (t := (k2 : Int)) (u := ((k2 : Int) + 1)) rfl (by omega) [(1, .int (zI ((k2 : Int) + 1))), (2, .ref (ad (zF0 (b + 6) (k2 : Int)))), (0, .ref (ad b))] (by decide) rfl dX10_decideDeliveries_64 (fun ls hl => ?_)
          refine z_goto C0 (tgt := 2) dX10_decideDeliveries_67 (by decide) ?_
          exact ih2 (k2 + 1) (by omega) M2 w2 (by show _ = (if _ then _ else _); rw [← hw, if_neg (by omega)]) hr2 ho2 _ _ _ Wd (lv_sub hl [2, 0] rfl)
        · skip
          refine z_aload_n C0 hl 0 rfl dX10_decideDeliveries_26 ?_
          refine zg_6_6 C0 Wd (znO (hR.mo (by omega) (by omega))) (zkO (hR.mo (by omega) (by omega))) zk_173 dX10_decideDeliveries_27 ?_
          obtain ⟨he11, hz10⟩ : (M2 (zF0 (b + 6) (k2 : Int)) 6) = (w2 (96 + 47 * (k2 : Int) + 6)) ∧ zR (w2 (96 + 47 * (k2 : Int) + 6)) := (fun q => ⟨q, q ▸ Wd.rm _ _⟩) (hr2.m6 (by omega) (by omega))
          refine z_top (congrArg zI he11) ?_
          clear he11
          refine z_iconst C0 dX10_decideDeliveries_30 ?_
          refine z_icmp_lt C0 (tgt := 64) hz10 (zR_mk (by decide) (by decide)) dX10_decideDeliveries_31 (by decide) (fun c12 => ?_) (fun c12 => ?_)
          · skip
            refine z_iinc C0 hl 2 (t := (k2 : Int)) (u := ((k2 : Int) + 1)) rfl (by omega) [(1, .int (zI ((k2 : Int) + 1))), (2, .ref (ad (zF0 (b + 6) (k2 : Int)))), (0, .ref (ad b))] (by decide) rfl dX10_decideDeliveries_64 (fun ls hl => ?_)
            refine z_goto C0 (tgt := 2) dX10_decideDeliveries_67 (by decide) ?_
            exact ih2 (k2 + 1) (by omega) M2 w2 (by show _ = (if _ then _ else _); rw [← hw, if_neg (by omega)]) hr2 ho2 _ _ _ Wd (lv_sub hl [2, 0] rfl)
          · skip
            obtain ⟨m0, m1, m2, m3, -, m5, m6, m7, -⟩ := hI2.2.2.2.2.2.2.1 (k2 : Int) (by omega) (by omega)
            have m69 := m6 (Or.inr (by assumption))
            have h6e : w2 (96 + 47 * (k2 : Int) + 6) = 5 := by omega
            have hbd := zMo_bd (hr2.mo (p := (k2 : Int)) (by omega) (by omega))
            have hm5 := hr2.m5 (p := (k2 : Int)) (by omega) (by omega)
            have h7b := hI2.2.2.2.1 7 (by decide) (by decide)
            refine z_aload_n C0 hl 1 rfl dX10_decideDeliveries_34 ?_
            refine z_aload_n C0 hl 0 rfl dX10_decideDeliveries_35 ?_
            refine z_invVi (As := [.ref (ad (zF0 (b + 6) (k2 : Int)))]) (rest := []) C0 Wd (ct_X10_isUnderstood l g zX ad M2 zF0 b hb w2 (zt + (k2 : Int)) (k2 : Int) hr2 hI2 (by omega) (by omega) h6e (fun q c a1 a2 a3 a4 => by have := hP2.2.2.1 (k2 : Int) q c (by omega) (by omega) (by assumption) a1 (by omega) a3 a4; dsimp only at this; omega)) kv_X10_isUnderstood (znB0 hb) (zE_7 (zkB0 hb)) rfl zk_741 rfl hl.1 rfl (Nat.le_of_ble_eq_true rfl) (by decide) (by decide) dX10_decideDeliveries_36 (fun r13 zMr13 zFr13 H locs hrr13 hp Wd => ?_)
            obtain ⟨rfl, rfl, rfl⟩ := hp
            refine z_if_eq_b C0 (tgt := 50) dX10_decideDeliveries_39 (by decide) (fun c15 => ?_) (fun c15 => ?_)
            · skip
              refine z_aload_n C0 hl 0 rfl dX10_decideDeliveries_50 ?_
              refine z_invVv (As := []) (rest := []) C0 Wd (ct_X9_lose l g zX ad M2 zF0 b (zF0 (b + 6) (k2 : Int)) (hR.mo (by omega) (by omega)) (by omega)) kv_X9_lose (znO (hR.mo (by omega) (by omega))) (zE_6 (zkO (hR.mo (by omega) (by omega)))) rfl zk_762 rfl hl.1 rfl (Nat.le_of_ble_eq_true rfl) (by decide) (by decide) dX10_decideDeliveries_51 (fun zMr16 zFr16 H locs hp Wd => ?_)
              rcases hp with ⟨hr16_0_0, rfl, rfl⟩ | ⟨hr16_1_0, rfl, rfl⟩
              · skip
                refine z_aload_n C0 hl 1 rfl dX10_decideDeliveries_54 ?_
                refine z_dup C0 rfl dX10_decideDeliveries_55 ?_
                refine zg_7_10 C0 Wd (znB0 hb) (zkB0 hb) zk_212 dX10_decideDeliveries_56 ?_
                obtain ⟨he19, hz18⟩ : ((zu (zu (zu M2 (zF0 (b + 6) (k2 : Int)) 5 (M2 (zF0 (b + 6) (k2 : Int)) 5 + 1)) (zF0 (b + 6) (k2 : Int)) 4 119) (zF0 (b + 6) (k2 : Int)) 6 0) b 10) = (w2 7) ∧ zR (w2 7) := (fun q => ⟨q, q ▸ Wd.rm _ _⟩) ((zu_ne (by omega)).trans ((zu_ne (by omega)).trans ((zu_ne (by omega)).trans hr2.c10)))
                refine z_top (congrArg zI he19) ?_
                clear he19
                refine z_iconst C0 dX10_decideDeliveries_59 ?_
                refine z_iadd C0 dX10_decideDeliveries_60 ?_
                refine zp_7_10 C0 Wd (znB0 hb) (zkB0 hb) (by have q0 := hz18.1; have p0 := hz18.2; exact zR_mk (by omega) (by omega)) zk_212 dX10_decideDeliveries_61 (fun H locs Wd => ?_)
                refine z_iinc C0 hl 2 (t := (k2 : Int)) (u := ((k2 : Int) + 1)) rfl (by omega) [(1, .int (zI ((k2 : Int) + 1))), (2, .ref (ad (zF0 (b + 6) (k2 : Int)))), (0, .ref (ad b))] (by decide) rfl dX10_decideDeliveries_64 (fun ls hl => ?_)
                refine z_goto C0 (tgt := 2) dX10_decideDeliveries_67 (by decide) ?_
                exact ih2 (k2 + 1) (by omega) (zu (zu (zu (zu M2 (zF0 (b + 6) (k2 : Int)) 5 (M2 (zF0 (b + 6) (k2 : Int)) 5 + 1)) (zF0 (b + 6) (k2 : Int)) 4 119) (zF0 (b + 6) (k2 : Int)) 6 0) b 10 ((w2 7) + 1)) (zDe (k2 : Int) w2) (by show _ = (if _ then _ else _); rw [← hw, if_pos (by omega)]) (by rw [zDe_0 (s := 119) c15 (by first | (rw [if_pos (by omega)]; done) | (rw [if_neg (by omega)]; done)), hm5]; exact zR_lose hr2 hI2 (by omega)) (zOut_u (zOut_u (zOut_u (zOut_u ho2 (by omega)) (by omega)) (by omega)) (by omega)) _ _ _ Wd (lv_sub hl [2, 0] rfl)
              · skip
                refine z_aload_n C0 hl 1 rfl dX10_decideDeliveries_54 ?_
                refine z_dup C0 rfl dX10_decideDeliveries_55 ?_
                refine zg_7_10 C0 Wd (znB0 hb) (zkB0 hb) zk_212 dX10_decideDeliveries_56 ?_
                obtain ⟨he21, hz20⟩ : ((zu (zu (zu M2 (zF0 (b + 6) (k2 : Int)) 5 (M2 (zF0 (b + 6) (k2 : Int)) 5 + 1)) (zF0 (b + 6) (k2 : Int)) 4 108) (zF0 (b + 6) (k2 : Int)) 6 0) b 10) = (w2 7) ∧ zR (w2 7) := (fun q => ⟨q, q ▸ Wd.rm _ _⟩) ((zu_ne (by omega)).trans ((zu_ne (by omega)).trans ((zu_ne (by omega)).trans hr2.c10)))
                refine z_top (congrArg zI he21) ?_
                clear he21
                refine z_iconst C0 dX10_decideDeliveries_59 ?_
                refine z_iadd C0 dX10_decideDeliveries_60 ?_
                refine zp_7_10 C0 Wd (znB0 hb) (zkB0 hb) (by have q0 := hz20.1; have p0 := hz20.2; exact zR_mk (by omega) (by omega)) zk_212 dX10_decideDeliveries_61 (fun H locs Wd => ?_)
                refine z_iinc C0 hl 2 (t := (k2 : Int)) (u := ((k2 : Int) + 1)) rfl (by omega) [(1, .int (zI ((k2 : Int) + 1))), (2, .ref (ad (zF0 (b + 6) (k2 : Int)))), (0, .ref (ad b))] (by decide) rfl dX10_decideDeliveries_64 (fun ls hl => ?_)
                refine z_goto C0 (tgt := 2) dX10_decideDeliveries_67 (by decide) ?_
                exact ih2 (k2 + 1) (by omega) (zu (zu (zu (zu M2 (zF0 (b + 6) (k2 : Int)) 5 (M2 (zF0 (b + 6) (k2 : Int)) 5 + 1)) (zF0 (b + 6) (k2 : Int)) 4 108) (zF0 (b + 6) (k2 : Int)) 6 0) b 10 ((w2 7) + 1)) (zDe (k2 : Int) w2) (by show _ = (if _ then _ else _); rw [← hw, if_pos (by omega)]) (by rw [zDe_0 (s := 108) c15 (by first | (rw [if_pos (by omega)]; done) | (rw [if_neg (by omega)]; done)), hm5]; exact zR_lose hr2 hI2 (by omega)) (zOut_u (zOut_u (zOut_u (zOut_u ho2 (by omega)) (by omega)) (by omega)) (by omega)) _ _ _ Wd (lv_sub hl [2, 0] rfl)
            · skip
              refine z_aload_n C0 hl 1 rfl dX10_decideDeliveries_42 ?_
              refine z_aload_n C0 hl 0 rfl dX10_decideDeliveries_43 ?_
              refine z_invVv (As := [.ref (ad (zF0 (b + 6) (k2 : Int)))]) (rest := []) C0 Wd (ct_X10_deliver l g zX ad M2 zF0 b hb w2 (zt + (k2 : Int)) (k2 : Int) hr2 hI2 (by omega) (by omega)) kv_X10_deliver (znB0 hb) (zE_7 (zkB0 hb)) rfl zk_754 rfl hl.1 rfl (Nat.le_of_ble_eq_true rfl) (by decide) (by decide) dX10_decideDeliveries_44 (fun zMr22 zFr22 H locs hp Wd => ?_)
              obtain ⟨rfl, rfl⟩ := hp
              refine z_goto C0 (tgt := 64) dX10_decideDeliveries_47 (by decide) ?_
              refine z_iinc C0 hl 2 (t := (k2 : Int)) (u := ((k2 : Int) + 1)) rfl (by omega) [(1, .int (zI ((k2 : Int) + 1))), (2, .ref (ad (zF0 (b + 6) (k2 : Int)))), (0, .ref (ad b))] (by decide) rfl dX10_decideDeliveries_64 (fun ls hl => ?_)
              refine z_goto C0 (tgt := 2) dX10_decideDeliveries_67 (by decide) ?_
              exact ih2 (k2 + 1) (by omega) (zu (zu (zu (zu (zu M2 (zF0 (b + 6) (k2 : Int)) 4 114) (zF0 (b + 6) (k2 : Int)) 6 0) b 9 (w2 6 + 1)) (b + 9 + w2 (96 + 47 * (k2 : Int) + 2)) 2 (w2 (72 + 4 * w2 (96 + 47 * (k2 : Int) + 2) + 2) + 1)) (b + 9 + w2 (96 + 47 * (k2 : Int) + 2)) 3 (w2 (96 + 47 * (k2 : Int) + 3))) (zDe (k2 : Int) w2) (by show _ = (if _ then _ else _); rw [← hw, if_pos (by omega)]) (by rw [zDe_1 c15]; exact zR_deliver hr2 hI2 (by omega)) (zOut_u (zOut_u (zOut_u (zOut_u (zOut_u ho2 (by omega)) (by omega)) (by omega)) (by omega)) (by omega)) _ _ _ Wd (lv_sub hl [2, 0] rfl)
  exact lp2 ((V 2)).toNat 0 (by omega) zM0 V rfl hR zOut_rf _ _ _ Wd (lv_sub hl [1, 0] rfl)
