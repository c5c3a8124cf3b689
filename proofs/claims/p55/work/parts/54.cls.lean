/-! the class: a tick begins -/
theorem kv_X10_beginMessages : zKV yX10_beginMessages cX10_beginMessages 3 none "DrumWarren$State" 0 := ⟨zk_692, zk_691, zk_4, zk_26, by decide, by decide, by decide +kernel⟩
set_option maxHeartbeats 4000000 in
set_option maxRecDepth 100000 in
theorem ct_X10_beginMessages (l : Launch) (g : zG) (zX : va_W) (ad : Int → Nat) (zM0 zF0 : zMem) (b : Int) (hb : zB b) (V : Int → Int) (zt : Int) (hR : zRS b V zM0 zF0) (hI : zIV zt V) (hTD : zTD V) : zMt l yX10_beginMessages cX10_beginMessages 3 none 3 0 0 g (0, 398, zX) ad [.ref (ad b)] zM0 zF0 (zPv (fun M' F' => (∃ M1 : zMem, (zRS b (zBegs V) M1 zF0) ∧ (zOut b zM0 zF0 M1 zF0) ∧ M1 = M' ∧ zF0 = F'))) := by
  refine zMt.of "DrumWarren$State" rfl (by decide +kernel) (Nat.le_of_ble_eq_true rfl) (fun {p e s m args below meth c ls} C0 Wd hl hret hlk hin => ?_)
  have hl : lv_has ls 3 [(0, .ref (ad b))] := hl
  have h0b := hI.1
  have h1b := hI.2.1
  have h2b := hI.2.2.1
  have hbb := zB_bd hb
  refine z_iconst C0 dX10_beginMessages_0 ?_
  refine z_istore_n C0 hl [(1, .int (zI 0)), (0, .ref (ad b))] (by decide) rfl dX10_beginMessages_1 (fun ls hl => ?_)
  have aft2 : ∀ (k2 : Nat) (hk2 : (k2 : Int) ≤ (V 0)) (M2 : zMem) (w2 : Int → Int) (hw : w2 = zfold (fun c W => zBeg1 c W) k2 V) (hr2 : zRS b w2 M2 zF0) (ho2 : zOut b zM0 zF0 M2 zF0) (hx2 : (k2 : Int) = (V 0)) (H : Heap) (locs : List Loc) (ls : Array Slot) (Wd : zW g (zA (0, 398, zX) ad s.heap.size) s.heap (0, 398, zX) ad M2 zF0 H locs) (hl : lv_has ls 3 [(0, .ref (ad b)), (1, .int (zI (k2 : Int)))]), W p l e (zrm 3 0 0) s m args below meth c H locs 0 0 (zMQ below g (0, 398, zX) ad (zPv (fun M' F' => (∃ M1 : zMem, (zRS b (zBegs V) M1 zF0) ∧ (zOut b zM0 zF0 M1 zF0) ∧ M1 = M' ∧ zF0 = F'))) args s 0 0) (F0 m 52 ls []) := by
    intro k2 hk2 M2 w2 hw hr2 ho2 hx2 H locs ls Wd hl
    replace hl : lv_has ls 3 [(0, .ref (ad b))] := lv_sub hl [0] rfl
    obtain ⟨hI2, hk2⟩ := zBegK_keep hI k2
    rw [← hw] at hI2 hk2
    have e20 := hk2 0 (by decide)
    have e22 := hk2 2 (by decide)
    have h2w := hI2.2.2.1
    have ek : k2 = (V 0).toNat := by omega
    subst ek
    exact z_vret C0 Wd hret hlk ⟨_, by rw [← show w2 = zBegs V from hw]; exact hr2, ho2, rfl, rfl⟩ dX10_beginMessages_52
  have lp2 : ∀ (d2 k2 : Nat) (hk2 : (k2 : Int) + d2 = (V 0)) (M2 : zMem) (w2 : Int → Int) (hw : w2 = zfold (fun c W => zBeg1 c W) k2 V) (hr2 : zRS b w2 M2 zF0) (ho2 : zOut b zM0 zF0 M2 zF0) (H : Heap) (locs : List Loc) (ls : Array Slot) (Wd : zW g (zA (0, 398, zX) ad s.heap.size) s.heap (0, 398, zX) ad M2 zF0 H locs) (hl : lv_has ls 3 [(0, .ref (ad b)), (1, .int (zI (k2 : Int)))]), W p l e (zrm 3 0 0) s m args below meth c H locs 0 0 (zMQ below g (0, 398, zX) ad (zPv (fun M' F' => (∃ M1 : zMem, (zRS b (zBegs V) M1 zF0) ∧ (zOut b zM0 zF0 M1 zF0) ∧ M1 = M' ∧ zF0 = F'))) args s 0 0) (F0 m 2 ls []) := by
    intro d2
    induction d2 with
    | zero =>
      intro k2 hk2 M2 w2 hw hr2 ho2 H locs ls Wd hl
      obtain ⟨hI2, hk2⟩ := zBegK_keep hI k2
      rw [← hw] at hI2 hk2
      have e20 := hk2 0 (by decide)
      have e22 := hk2 2 (by decide)
      have h2w := hI2.2.2.1
      refine z_iload_n C0 hl 1 rfl dX10_beginMessages_2 ?_
      refine z_aload_n C0 hl 0 rfl dX10_beginMessages_3 ?_
      refine zg_7_0 C0 Wd (znB0 hb) (zkB0 hb) zk_193 dX10_beginMessages_4 ?_
      refine zg_1_0 C0 Wd (znB1 hb) (zkB1 hb) zk_95 dX10_beginMessages_7 ?_
      obtain ⟨he2, hz1⟩ : (M2 (b + 1) 0) = (w2 0) ∧ zR (w2 0) := (fun q => ⟨q, q ▸ Wd.rm _ _⟩) hr2.c0
      refine z_top (congrArg zI he2) ?_
      clear he2
      refine z_icmp_ge C0 (tgt := 52) (zR_mk (by omega) (by omega)) hz1 dX10_beginMessages_10 (by decide) (fun c3 => ?_) (fun c3 => ?_)
      · skip
        first | exact aft2 k2 (by omega) M2 w2 hw hr2 ho2 (by first | assumption | omega) _ _ _ Wd (lv_sub hl [0, 1] rfl) | (exfalso; omega)
      · skip
        exfalso; omega
    | succ d2 ih2 =>
      intro k2 hk2 M2 w2 hw hr2 ho2 H locs ls Wd hl
      obtain ⟨hI2, hk2⟩ := zBegK_keep hI k2
      rw [← hw] at hI2 hk2
      have e20 := hk2 0 (by decide)
      have e22 := hk2 2 (by decide)
      have h2w := hI2.2.2.1
      refine z_iload_n C0 hl 1 rfl dX10_beginMessages_2 ?_
      refine z_aload_n C0 hl 0 rfl dX10_beginMessages_3 ?_
      refine zg_7_0 C0 Wd (znB0 hb) (zkB0 hb) zk_193 dX10_beginMessages_4 ?_
      refine zg_1_0 C0 Wd (znB1 hb) (zkB1 hb) zk_95 dX10_beginMessages_7 ?_
      obtain ⟨he5, hz4⟩ : (M2 (b + 1) 0) = (w2 0) ∧ zR (w2 0) := (fun q => ⟨q, q ▸ Wd.rm _ _⟩) hr2.c0
      refine z_top (congrArg zI he5) ?_
      clear he5
      refine z_icmp_ge C0 (tgt := 52) (zR_mk (by omega) (by omega)) hz4 dX10_beginMessages_10 (by decide) (fun c6 => ?_) (fun c6 => ?_)
      · skip
        first | exact aft2 k2 (by omega) M2 w2 hw hr2 ho2 (by first | assumption | omega) _ _ _ Wd (lv_sub hl [0, 1] rfl) | (exfalso; omega)
      · skip
        refine z_aload_n C0 hl 0 rfl dX10_beginMessages_13 ?_
        refine z_iload_n C0 hl 1 rfl dX10_beginMessages_14 ?_
        refine z_bipush C0 dX10_beginMessages_15 (by decide) ?_
        refine z_invVi (As := [.int (zI (k2 : Int)), .int (zI 119)]) (rest := []) C0 Wd (ct_X10_firstIn l g zX ad M2 zF0 b hb w2 zt (k2 : Int) (zR_mk (by omega) (by omega)) 119 (zR_mk (by decide) (by decide)) hr2 hI2) kv_X10_firstIn (znB0 hb) (zE_7 (zkB0 hb)) rfl zk_693 rfl hl.1 rfl (Nat.le_of_ble_eq_true rfl) (by decide) (by decide) dX10_beginMessages_17 (fun r7 zMr7 zFr7 H locs hrr7 hp Wd => ?_)
        rcases hp with ⟨r1_r7, hr7_0_0, rfl, rfl, rfl⟩
        · skip
          refine z_istore_n C0 hl [(2, .int (zI r1_r7)), (0, .ref (ad b)), (1, .int (zI (k2 : Int)))] (by decide) rfl dX10_beginMessages_20 (fun ls hl => ?_)
          refine z_iload_n C0 hl 0 rfl dX10_beginMessages_21 ?_
          refine z_iconst C0 dX10_beginMessages_22 ?_
          refine z_icmp_eq C0 (tgt := 46) hrr7 (zR_mk (by decide) (by decide)) dX10_beginMessages_23 (by decide) (fun c9 => ?_) (fun c9 => ?_)
          · skip
            refine z_iinc C0 hl 2 (t := (k2 : Int)) (u := ((k2 : Int) + 1)) rfl (by omega) [(1, .int (zI ((k2 : Int) + 1))), (2, .int (zI r1_r7)), (0, .ref (ad b))] (by decide) rfl dX10_beginMessages_46 (fun ls hl => ?_)
            refine z_goto C0 (tgt := 2) dX10_beginMessages_49 (by decide) ?_
            exact ih2 (k2 + 1) (by omega) M2 w2 (by show _ = zBeg1 (k2 : Int) (zfold (fun c W => zBeg1 c W) k2 V); rw [← hw]; exact (zBegA h2w.1 (by have z := hr7_0_0; rw [show r1_r7 = -1 by assumption] at z; exact z)).symm) hr2 ho2 _ _ _ Wd (lv_sub hl [2, 0] rfl)
          · skip
            have hrb := zF1_r hr7_0_0 (by assumption)
            refine z_aload_n C0 hl 1 rfl dX10_beginMessages_26 ?_
            refine z_iload_n C0 hl 2 rfl dX10_beginMessages_27 ?_
            refine z_bipush C0 dX10_beginMessages_28 (by decide) ?_
            refine z_invVi (As := [.int (zI (k2 : Int)), .int (zI 100)]) (rest := []) C0 Wd (ct_X10_firstIn l g zX ad M2 zF0 b hb w2 zt (k2 : Int) (zR_mk (by omega) (by omega)) 100 (zR_mk (by decide) (by decide)) hr2 hI2) kv_X10_firstIn (znB0 hb) (zE_7 (zkB0 hb)) rfl zk_693 rfl hl.1 rfl (Nat.le_of_ble_eq_true rfl) (by decide) (by decide) dX10_beginMessages_30 (fun r10 zMr10 zFr10 H locs hrr10 hp Wd => ?_)
            rcases hp with ⟨r1_r10, hr10_0_0, rfl, rfl, rfl⟩
            · skip
              refine z_iconst C0 dX10_beginMessages_33 ?_
              refine z_icmp_ne C0 (tgt := 46) hrr10 (zR_mk (by decide) (by decide)) dX10_beginMessages_34 (by decide) (fun c12 => ?_) (fun c12 => ?_)
              · skip
                refine z_iinc C0 hl 2 (t := (k2 : Int)) (u := ((k2 : Int) + 1)) rfl (by omega) [(1, .int (zI ((k2 : Int) + 1))), (2, .int (zI r1_r7)), (0, .ref (ad b))] (by decide) rfl dX10_beginMessages_46 (fun ls hl => ?_)
                refine z_goto C0 (tgt := 2) dX10_beginMessages_49 (by decide) ?_
                exact ih2 (k2 + 1) (by omega) M2 w2 (by show _ = zBeg1 (k2 : Int) (zfold (fun c W => zBeg1 c W) k2 V); rw [← hw]; exact (zBegB hr10_0_0 (by assumption)).symm) hr2 ho2 _ _ _ Wd (lv_sub hl [2, 0] rfl)
              · skip
                refine z_aload_n C0 hl 1 rfl dX10_beginMessages_37 ?_
                refine zg_7_3 C0 Wd (znB0 hb) (zkB0 hb) zk_198 dX10_beginMessages_38 ?_
                refine z_iload_n C0 hl 0 rfl dX10_beginMessages_41 ?_
                refine z_aald16 C0 Wd (znB6 hb) (zkB6 hb) (zlB6 hb) (by omega) (by omega) (by decide) dX10_beginMessages_42 ?_
                refine z_invVv (As := []) (rest := []) C0 Wd (ct_X9_begin l g zX ad M2 zF0 b (zF0 (b + 6) r1_r7) (hR.mo (by omega) (by omega))) kv_X9_begin (znO (hR.mo (by omega) (by omega))) (zE_6 (zkO (hR.mo (by omega) (by omega)))) rfl zk_698 rfl hl.1 rfl (Nat.le_of_ble_eq_true rfl) (by decide) (by decide) dX10_beginMessages_43 (fun zMr13 zFr13 H locs hp Wd => ?_)
                obtain ⟨rfl, rfl⟩ := hp
                refine z_iinc C0 hl 2 (t := (k2 : Int)) (u := ((k2 : Int) + 1)) rfl (by omega) [(1, .int (zI ((k2 : Int) + 1))), (2, .int (zI r1_r7)), (0, .ref (ad b))] (by decide) rfl dX10_beginMessages_46 (fun ls hl => ?_)
                refine z_goto C0 (tgt := 2) dX10_beginMessages_49 (by decide) ?_
                exact ih2 (k2 + 1) (by omega) (zu (zu M2 (zF0 (b + 6) r1_r7) 4 100) (zF0 (b + 6) r1_r7) 6 0) (zup (zup w2 (96 + 47 * r1_r7 + 4) 100) (96 + 47 * r1_r7 + 6) 0) (by show _ = zBeg1 (k2 : Int) (zfold (fun c W => zBeg1 c W) k2 V); rw [← hw]; exact (zBegC h2w.1 hr7_0_0 (by assumption) hr10_0_0 (by assumption)).symm) (zR_begin hr2 hI2 (by omega)) (by have hbd := zMo_bd (hr2.mo (p := r1_r7) (by omega) (by omega)); exact (zOut_u (zOut_u ho2 (by omega)) (by omega))) _ _ _ Wd (lv_sub hl [2, 0] rfl)
  exact lp2 ((V 0)).toNat 0 (by omega) zM0 V rfl hR zOut_rf _ _ _ Wd (lv_sub hl [1, 0] rfl)
theorem kv_X10_drumBeats : zKV yX10_drumBeats cX10_drumBeats 3 none "DrumWarren$State" 0 := ⟨zk_705, zk_704, zk_6, zk_26, by decide, by decide, by decide +kernel⟩
set_option maxHeartbeats 4000000 in
set_option maxRecDepth 100000 in
theorem ct_X10_drumBeats (l : Launch) (g : zG) (zX : va_W) (ad : Int → Nat) (zM0 zF0 : zMem) (b : Int) (hb : zB b) (V : Int → Int) (zt : Int) (hR : zRS b V zM0 zF0) (hI : zIV zt V) (hTD : zTD V) (hP : zP0 V) (ht : zt ≤ 90000000) : zMt l yX10_drumBeats cX10_drumBeats 3 none 4 0 0 g (0, 398, zX) ad [.ref (ad b)] zM0 zF0 (zPv (fun M' F' => (∃ M1 : zMem, (zRS b (zTkB V) M1 zF0) ∧ (zOut b zM0 zF0 M1 zF0) ∧ M1 = M' ∧ zF0 = F'))) := by
  refine zMt.of "DrumWarren$State" rfl (by decide +kernel) (Nat.le_of_ble_eq_true rfl) (fun {p e s m args below meth c ls} C0 Wd hl hret hlk hin => ?_)
  have hl : lv_has ls 3 [(0, .ref (ad b))] := hl
  have h0b := hI.1
  have h1b := hI.2.1
  have h2b := hI.2.2.1
  have hbb := zB_bd hb
  refine z_iconst C0 dX10_drumBeats_0 ?_
  refine z_istore_n C0 hl [(1, .int (zI 0)), (0, .ref (ad b))] (by decide) rfl dX10_drumBeats_1 (fun ls hl => ?_)
  have aft2 : ∀ (k2 : Nat) (hk2 : (k2 : Int) ≤ (V 2)) (M2 : zMem) (w2 : Int → Int) (hw : w2 = zfold (fun p W => if W (96 + 47 * p + 4) = 100 then zDr p W else W) k2 V) (hr2 : zRS b w2 M2 zF0) (ho2 : zOut b zM0 zF0 M2 zF0) (hx2 : (k2 : Int) = (V 2)) (H : Heap) (locs : List Loc) (ls : Array Slot) (Wd : zW g (zA (0, 398, zX) ad s.heap.size) s.heap (0, 398, zX) ad M2 zF0 H locs) (hl : lv_has ls 3 [(0, .ref (ad b)), (1, .int (zI (k2 : Int)))]), W p l e (zrm 4 0 0) s m args below meth c H locs 0 0 (zMQ below g (0, 398, zX) ad (zPv (fun M' F' => (∃ M1 : zMem, (zRS b (zTkB V) M1 zF0) ∧ (zOut b zM0 zF0 M1 zF0) ∧ M1 = M' ∧ zF0 = F'))) args s 0 0) (F0 m 64 ls []) := by
    intro k2 hk2 M2 w2 hw hr2 ho2 hx2 H locs ls Wd hl
    replace hl : lv_has ls 3 [(0, .ref (ad b))] := lv_sub hl [0] rfl
    obtain ⟨hI2, hk2, hd2⟩ := zTkB_keep hI hTD k2 (by omega)
    have hP2 := zTkB_pk hI hTD hP k2 (by omega)
    rw [← hw] at hI2 hk2 hd2 hP2
    have e22 := hk2 2 (by decide) (by decide)
    have h2w := hI2.2.2.1
    have ek : k2 = (V 2).toNat := by omega
    subst ek
    exact z_vret C0 Wd hret hlk ⟨_, by rw [← show w2 = zTkB V from hw]; exact hr2, ho2, rfl, rfl⟩ dX10_drumBeats_64
  have lp2 : ∀ (d2 k2 : Nat) (hk2 : (k2 : Int) + d2 = (V 2)) (M2 : zMem) (w2 : Int → Int) (hw : w2 = zfold (fun p W => if W (96 + 47 * p + 4) = 100 then zDr p W else W) k2 V) (hr2 : zRS b w2 M2 zF0) (ho2 : zOut b zM0 zF0 M2 zF0) (H : Heap) (locs : List Loc) (ls : Array Slot) (Wd : zW g (zA (0, 398, zX) ad s.heap.size) s.heap (0, 398, zX) ad M2 zF0 H locs) (hl : lv_has ls 3 [(0, .ref (ad b)), (1, .int (zI (k2 : Int)))]), W p l e (zrm 4 0 0) s m args below meth c H locs 0 0 (zMQ below g (0, 398, zX) ad (zPv (fun M' F' => (∃ M1 : zMem, (zRS b (zTkB V) M1 zF0) ∧ (zOut b zM0 zF0 M1 zF0) ∧ M1 = M' ∧ zF0 = F'))) args s 0 0) (F0 m 2 ls []) := by
    intro d2
    induction d2 with
    | zero =>
      intro k2 hk2 M2 w2 hw hr2 ho2 H locs ls Wd hl
      obtain ⟨hI2, hk2, hd2⟩ := zTkB_keep hI hTD k2 (by omega)
      have hP2 := zTkB_pk hI hTD hP k2 (by omega)
      rw [← hw] at hI2 hk2 hd2 hP2
      have e22 := hk2 2 (by decide) (by decide)
      have h2w := hI2.2.2.1
      refine z_iload_n C0 hl 1 rfl dX10_drumBeats_2 ?_
      refine z_aload_n C0 hl 0 rfl dX10_drumBeats_3 ?_
      refine zg_7_4 C0 Wd (znB0 hb) (zkB0 hb) zk_200 dX10_drumBeats_4 ?_
      obtain ⟨he2, hz1⟩ : (M2 b 4) = (w2 2) ∧ zR (w2 2) := (fun q => ⟨q, q ▸ Wd.rm _ _⟩) hr2.c4
      refine z_top (congrArg zI he2) ?_
      clear he2
      refine z_icmp_ge C0 (tgt := 64) (zR_mk (by omega) (by omega)) hz1 dX10_drumBeats_7 (by decide) (fun c3 => ?_) (fun c3 => ?_)
      · skip
        first | exact aft2 k2 (by omega) M2 w2 hw hr2 ho2 (by first | assumption | omega) _ _ _ Wd (lv_sub hl [0, 1] rfl) | (exfalso; omega)
      · skip
        exfalso; omega
    | succ d2 ih2 =>
      intro k2 hk2 M2 w2 hw hr2 ho2 H locs ls Wd hl
      obtain ⟨hI2, hk2, hd2⟩ := zTkB_keep hI hTD k2 (by omega)
      have hP2 := zTkB_pk hI hTD hP k2 (by omega)
      rw [← hw] at hI2 hk2 hd2 hP2
      have e22 := hk2 2 (by decide) (by decide)
      have h2w := hI2.2.2.1
      refine z_iload_n C0 hl 1 rfl dX10_drumBeats_2 ?_
      refine z_aload_n C0 hl 0 rfl dX10_drumBeats_3 ?_
      refine zg_7_4 C0 Wd (znB0 hb) (zkB0 hb) zk_200 dX10_drumBeats_4 ?_
      obtain ⟨he5, hz4⟩ : (M2 b 4) = (w2 2) ∧ zR (w2 2) := (fun q => ⟨q, q ▸ Wd.rm _ _⟩) hr2.c4
      refine z_top (congrArg zI he5) ?_
      clear he5
      refine z_icmp_ge C0 (tgt := 64) (zR_mk (by omega) (by omega)) hz4 dX10_drumBeats_7 (by decide) (fun c6 => ?_) (fun c6 => ?_)
      · skip
        first | exact aft2 k2 (by omega) M2 w2 hw hr2 ho2 (by first | assumption | omega) _ _ _ Wd (lv_sub hl [0, 1] rfl) | (exfalso; omega)
      · skip
        refine z_aload_n C0 hl 0 rfl dX10_drumBeats_10 ?_
        refine zg_7_3 C0 Wd (znB0 hb) (zkB0 hb) zk_198 dX10_drumBeats_11 ?_
        refine z_iload_n C0 hl 1 rfl dX10_drumBeats_14 ?_
        refine z_aald16 C0 Wd (znB6 hb) (zkB6 hb) (zlB6 hb) (by omega) (by omega) (by decide) dX10_drumBeats_15 ?_
        refine z_astore_n C0 hl [(2, .ref (ad (zF0 (b + 6) (k2 : Int)))), (0, .ref (ad b)), (1, .int (zI (k2 : Int)))] (by decide) rfl dX10_drumBeats_16 (fun ls hl => ?_)
        refine z_aload_n C0 hl 0 rfl dX10_drumBeats_17 ?_
        refine zg_6_4 C0 Wd (znO (hR.mo (by omega) (by omega))) (zkO (hR.mo (by omega) (by omega))) zk_167 dX10_drumBeats_18 ?_
        obtain ⟨he8, hz7⟩ : (M2 (zF0 (b + 6) (k2 : Int)) 4) = (w2 (96 + 47 * (k2 : Int) + 4)) ∧ zR (w2 (96 + 47 * (k2 : Int) + 4)) := (fun q => ⟨q, q ▸ Wd.rm _ _⟩) (hr2.m4 (by omega) (by omega))
        refine z_top (congrArg zI he8) ?_
        clear he8
        refine z_bipush C0 dX10_drumBeats_21 (by decide) ?_
        refine z_icmp_ne C0 (tgt := 58) hz7 (zR_mk (by decide) (by decide)) dX10_drumBeats_23 (by decide) (fun c9 => ?_) (fun c9 => ?_)
        · skip
          refine z_iinc C0 hl 2 (t := (k2 : Int)) (u := ((k2 : Int) + 1)) rfl (by omega) [(1, .int (zI ((k2 : Int) + 1))), (2, .ref (ad (zF0 (b + 6) (k2 : Int)))), (0, .ref (ad b))] (by decide) rfl dX10_drumBeats_58 (fun ls hl => ?_)
          refine z_goto C0 (tgt := 2) dX10_drumBeats_61 (by decide) ?_
          exact ih2 (k2 + 1) (by omega) M2 w2 (by show _ = (if _ then _ else _); rw [← hw, if_neg (by assumption)]) hr2 ho2 _ _ _ Wd (lv_sub hl [2, 0] rfl)
        · skip
          have hd9 := hd2 (k2 : Int) (by omega) (by omega) (by assumption)
          obtain ⟨m0, m1, m2, m3, -, m5, -, m7, -⟩ := hI2.2.2.2.2.2.2.1 (k2 : Int) (by omega) (by omega)
          have hcb := zcd_bd m3.1 m3.2
          have hbz := zbt_is (n := w2 (96 + 47 * (k2 : Int) + 3)) (b := w2 (96 + 47 * (k2 : Int) + 6)) m3 (by omega)
          have hb1 := zbt_01 (w2 (96 + 47 * (k2 : Int) + 3)) (w2 (96 + 47 * (k2 : Int) + 6))
          have h5b := hI2.2.2.2.1 5 (by decide) (by decide)
          refine z_aload_n C0 hl 0 rfl dX10_drumBeats_26 ?_
          refine zg_6_3 C0 Wd (znO (hR.mo (by omega) (by omega))) (zkO (hR.mo (by omega) (by omega))) zk_164 dX10_drumBeats_27 ?_
          obtain ⟨he11, hz10⟩ : (M2 (zF0 (b + 6) (k2 : Int)) 3) = (w2 (96 + 47 * (k2 : Int) + 3)) ∧ zR (w2 (96 + 47 * (k2 : Int) + 3)) := (fun q => ⟨q, q ▸ Wd.rm _ _⟩) (hr2.m3 (by omega) (by omega))
          refine z_top (congrArg zI he11) ?_
          clear he11
          refine z_invSN (As := [.int (zI (w2 (96 + 47 * (k2 : Int) + 3)))]) (rest := []) C0 Wd (ct_X11_codeOf l g zX ad M2 zF0 (w2 (96 + 47 * (k2 : Int) + 3)) hz10 (by omega)) kv_X11_codeOf (zc_nm C0 (q := ("DrumWarren$State", 176, ⟨"DrumWarren", "codeOf", "(I)I"⟩, "DrumWarren")) (List.mem_of_getElem? (i := 1) rfl)) rfl hl.1 rfl (Nat.le_of_ble_eq_true rfl) (by decide) (by decide) dX10_drumBeats_30 (z_kki (fun r12 zMr12 zFr12 H locs hrr12 hp Wd => ?_))
          obtain ⟨rfl, rfl, rfl⟩ := hp
          refine z_aload_n C0 hl 0 rfl dX10_drumBeats_33 ?_
          refine zg_6_6 C0 Wd (znO (hR.mo (by omega) (by omega))) (zkO (hR.mo (by omega) (by omega))) zk_173 dX10_drumBeats_34 ?_
          obtain ⟨he15, hz14⟩ : (M2 (zF0 (b + 6) (k2 : Int)) 6) = (w2 (96 + 47 * (k2 : Int) + 6)) ∧ zR (w2 (96 + 47 * (k2 : Int) + 6)) := (fun q => ⟨q, q ▸ Wd.rm _ _⟩) (hr2.m6 (by omega) (by omega))
          refine z_top (congrArg zI he15) ?_
          clear he15
          refine z_invSN (As := [.int (zI (zcd (w2 (96 + 47 * (k2 : Int) + 3)))), .int (zI (w2 (96 + 47 * (k2 : Int) + 6)))]) (rest := []) C0 Wd (ct_X11_isOne l g zX ad M2 zF0 (zcd (w2 (96 + 47 * (k2 : Int) + 3))) hrr12 (w2 (96 + 47 * (k2 : Int) + 6)) hz14 (by omega) (by omega)) kv_X11_isOne (zc_nm C0 (q := ("DrumWarren$State", 179, ⟨"DrumWarren", "isOne", "(II)Z"⟩, "DrumWarren")) (List.mem_of_getElem? (i := 2) rfl)) rfl hl.1 rfl (Nat.le_of_ble_eq_true rfl) (by decide) (by decide) dX10_drumBeats_37 (z_kki (fun r16 zMr16 zFr16 H locs hrr16 hp Wd => ?_))
          obtain ⟨rfl, rfl, rfl⟩ := hp
          refine z_if_eq_b C0 (tgt := 48) dX10_drumBeats_40 (by decide) (fun c18 => ?_) (fun c18 => ?_)
          · skip
            have hz9 : zbt (w2 (96 + 47 * (k2 : Int) + 3)) (w2 (96 + 47 * (k2 : Int) + 6)) = 0 := by rw [hbz] at c18; omega
            refine z_aload_n C0 hl 0 rfl dX10_drumBeats_48 ?_
            refine z_dup C0 rfl dX10_drumBeats_49 ?_
            refine zg_6_6 C0 Wd (znO (hR.mo (by omega) (by omega))) (zkO (hR.mo (by omega) (by omega))) zk_173 dX10_drumBeats_50 ?_
            obtain ⟨he20, hz19⟩ : (M2 (zF0 (b + 6) (k2 : Int)) 6) = (w2 (96 + 47 * (k2 : Int) + 6)) ∧ zR (w2 (96 + 47 * (k2 : Int) + 6)) := (fun q => ⟨q, q ▸ Wd.rm _ _⟩) (hr2.m6 (by omega) (by omega))
            refine z_top (congrArg zI he20) ?_
            clear he20
            refine z_iconst C0 dX10_drumBeats_53 ?_
            refine z_iadd C0 dX10_drumBeats_54 ?_
            refine zp_6_6 C0 Wd (znO (hR.mo (by omega) (by omega))) (zkO (hR.mo (by omega) (by omega))) (by have q0 := hz19.1; have p0 := hz19.2; exact zR_mk (by omega) (by omega)) zk_173 dX10_drumBeats_55 (fun H locs Wd => ?_)
            refine z_iinc C0 hl 2 (t := (k2 : Int)) (u := ((k2 : Int) + 1)) rfl (by omega) [(1, .int (zI ((k2 : Int) + 1))), (2, .ref (ad (zF0 (b + 6) (k2 : Int)))), (0, .ref (ad b))] (by decide) rfl dX10_drumBeats_58 (fun ls hl => ?_)
            refine z_goto C0 (tgt := 2) dX10_drumBeats_61 (by decide) ?_
            exact ih2 (k2 + 1) (by omega) (zu M2 (zF0 (b + 6) (k2 : Int)) 6 ((w2 (96 + 47 * (k2 : Int) + 6)) + 1)) (zDr (k2 : Int) w2) (by show _ = (if _ then _ else _); rw [← hw, if_pos (by assumption)]) (by rw [zDr_0 hz9]; exact zR_drum0 hr2 hI2 (by omega) hz9) (by have hbd := zMo_bd (hr2.mo (p := (k2 : Int)) (by omega) (by omega)); exact (zOut_u ho2 (by omega))) _ _ _ Wd (lv_sub hl [2, 0] rfl)
          · skip
            have hbd := zMo_bd (hr2.mo (p := (k2 : Int)) (by omega) (by omega))
            have hz9 : ¬ zbt (w2 (96 + 47 * (k2 : Int) + 3)) (w2 (96 + 47 * (k2 : Int) + 6)) = 0 := by rw [← hbz]; omega
            refine z_aload_n C0 hl 1 rfl dX10_drumBeats_43 ?_
            refine z_aload_n C0 hl 0 rfl dX10_drumBeats_44 ?_
            refine z_invVv (As := [.ref (ad (zF0 (b + 6) (k2 : Int)))]) (rest := []) C0 Wd (ct_X10_thump l g zX ad M2 zF0 b hb w2 (zt + (k2 : Int)) (k2 : Int) hr2 hI2 (by omega) hd9 (by omega)) kv_X10_thump (znB0 hb) (zE_7 (zkB0 hb)) rfl zk_718 rfl hl.1 rfl (Nat.le_of_ble_eq_true rfl) (by decide) (by decide) dX10_drumBeats_45 (fun zMr21 zFr21 H locs hp Wd => ?_)
            rcases hp with ⟨w1_r21, w2_r21, hr21_0_0, hr21_0_1, rfl, rfl⟩
            · skip
              refine z_aload_n C0 hl 0 rfl dX10_drumBeats_48 ?_
              refine z_dup C0 rfl dX10_drumBeats_49 ?_
              refine zg_6_6 C0 Wd (znO (hR.mo (by omega) (by omega))) (zkO (hR.mo (by omega) (by omega))) zk_173 dX10_drumBeats_50 ?_
              obtain ⟨he24, hz23⟩ : ((zu (zrow (zrow M2 (zF0 (b + 6) (k2 : Int) + 1) w1_r21) (b + 8) w2_r21) b 8 (w2 5 + 1)) (zF0 (b + 6) (k2 : Int)) 6) = (w2 (96 + 47 * (k2 : Int) + 6)) ∧ zR (w2 (96 + 47 * (k2 : Int) + 6)) := (fun q => ⟨q, q ▸ Wd.rm _ _⟩) ((zu_ne (by omega)).trans ((congrFun (zrow_ne (by omega)) _).trans ((congrFun (zrow_ne (by omega)) _).trans (hr2.m6 (by omega) (by omega)))))
              refine z_top (congrArg zI he24) ?_
              clear he24
              refine z_iconst C0 dX10_drumBeats_53 ?_
              refine z_iadd C0 dX10_drumBeats_54 ?_
              refine zp_6_6 C0 Wd (znO (hR.mo (by omega) (by omega))) (zkO (hR.mo (by omega) (by omega))) (by have q0 := hz23.1; have p0 := hz23.2; exact zR_mk (by omega) (by omega)) zk_173 dX10_drumBeats_55 (fun H locs Wd => ?_)
              refine z_iinc C0 hl 2 (t := (k2 : Int)) (u := ((k2 : Int) + 1)) rfl (by omega) [(1, .int (zI ((k2 : Int) + 1))), (2, .ref (ad (zF0 (b + 6) (k2 : Int)))), (0, .ref (ad b))] (by decide) rfl dX10_drumBeats_58 (fun ls hl => ?_)
              refine z_goto C0 (tgt := 2) dX10_drumBeats_61 (by decide) ?_
              exact ih2 (k2 + 1) (by omega) (zu (zu (zrow (zrow M2 (zF0 (b + 6) (k2 : Int) + 1) w1_r21) (b + 8) w2_r21) b 8 (w2 5 + 1)) (zF0 (b + 6) (k2 : Int)) 6 ((w2 (96 + 47 * (k2 : Int) + 6)) + 1)) (zDr (k2 : Int) w2) (by show _ = (if _ then _ else _); rw [← hw, if_pos (by assumption)]) (zR_drum1 hr2 hI2 hP2.1 (by omega) hd9 hz9 hr21_0_0 hr21_0_1) (by have hbd := zMo_bd (hr2.mo (p := (k2 : Int)) (by omega) (by omega)); exact (zOut_u (zOut_u (zOut_w (zOut_w ho2 (by omega)) (by omega)) (by omega)) (by omega))) _ _ _ Wd (lv_sub hl [2, 0] rfl)
  exact lp2 ((V 2)).toNat 0 (by omega) zM0 V rfl hR zOut_rf _ _ _ Wd (lv_sub hl [1, 0] rfl)
