/-! the model: more calls -/
theorem kv_X12_shortestDelay : zKV yX12_shortestDelay cX12_shortestDelay 3 (some .int) "DrumWarrenModel" 2 := ⟨zk_1740, zk_1738, zk_1739, zk_80, by decide, by decide, by decide +kernel⟩
set_option maxHeartbeats 4000000 in
set_option maxRecDepth 100000 in
theorem ct_X12_shortestDelay (l : Launch) (g : zG) (ad : Int → Nat) (zM0 zF0 : zMem) (x0 : Int) (hx0 : zR x0) (x1 : Int) (hx1 : zR x1) (h0 : 0 ≤ zM0 399 0 ∧ zM0 399 0 ≤ 8) (hT : ∀ i, 8 ≤ i → i < 72 → 0 ≤ zM0 399 i ∧ zM0 399 i ≤ 9) : zMt l yX12_shortestDelay cX12_shortestDelay 3 (some .int) 2 0 0 g 410 ad [.ref (ad 398), .int (zI x0), .int (zI x1)] zM0 zF0 (zPi (fun r M' F' => (∃ w : Int → Int, (zqSD x0 x1 (zM0 399)).2 = r ∧ (zu (zrow zM0 404 w) 398 8 (zqSD x0 x1 (zM0 399)).1) = M' ∧ zF0 = F'))) := by
  refine zMt.of "DrumWarrenModel" rfl (by decide) (Nat.le_of_ble_eq_true rfl) (fun {p e s m args below meth c ls} C0 Wd hl hret hlk hin => ?_)
  have hl : lv_has ls 3 [(0, .ref (ad 398)), (1, .int (zI x0)), (2, .int (zI x1))] := hl
  refine z_aload_n C0 hl 0 rfl dX12_shortestDelay_0 ?_
  refine z_iload_n C0 hl 1 rfl dX12_shortestDelay_1 ?_
  refine z_invVi (As := [.int (zI x0)]) (rest := []) C0 Wd (ct_X12_isChamber l g ad zM0 zF0 x0 hx0 (by omega)) kv_X12_isChamber zN398 (zE_9 zK398) rfl zk_1703 rfl hl.1 rfl (Nat.le_of_ble_eq_true rfl) (by decide) (by decide) dX12_shortestDelay_2 (fun r1 zMr1 zFr1 H locs hrr1 hp Wd => ?_)
  obtain ⟨rfl, rfl, rfl⟩ := hp
  refine z_if_eq_b C0 (tgt := 16) dX12_shortestDelay_5 (by decide) (fun c3 => ?_) (fun c3 => ?_)
  · skip
    refine z_aload_n C0 hl 0 rfl dX12_shortestDelay_16 ?_
    refine z_iconst C0 dX12_shortestDelay_17 ?_
    refine z_invVi (As := [.int (zI 1)]) (rest := []) C0 Wd (ct_X12_fails l g ad zM0 zF0 1 (zR_mk (by decide) (by decide))) kv_X12_fails zN398 (zE_9 zK398) rfl zk_1687 rfl hl.1 rfl (Nat.le_of_ble_eq_true rfl) (by decide) (by decide) dX12_shortestDelay_18 (fun r4 zMr4 zFr4 H locs hrr4 hp Wd => ?_)
    obtain ⟨rfl, rfl, rfl⟩ := hp
    exact z_iret C0 Wd hret hlk (zR_mk (by decide) (by decide)) (by have e : zqSD x0 x1 (zM0 399) = ((1, 0) : zQu) := (by unfold zqSD; rw [if_pos (by omega)]); rw [e]; exact ⟨zM0 404, rfl, by rw [zrow_eta], rfl⟩) dX12_shortestDelay_21
  · skip
    refine z_aload_n C0 hl 0 rfl dX12_shortestDelay_8 ?_
    refine z_iload_n C0 hl 2 rfl dX12_shortestDelay_9 ?_
    refine z_invVi (As := [.int (zI x1)]) (rest := []) C0 Wd (ct_X12_isChamber l g ad zM0 zF0 x1 hx1 (by omega)) kv_X12_isChamber zN398 (zE_9 zK398) rfl zk_1703 rfl hl.1 rfl (Nat.le_of_ble_eq_true rfl) (by decide) (by decide) dX12_shortestDelay_10 (fun r6 zMr6 zFr6 H locs hrr6 hp Wd => ?_)
    obtain ⟨rfl, rfl, rfl⟩ := hp
    refine z_if_ne_b C0 (tgt := 22) dX12_shortestDelay_13 (by decide) (fun c8 => ?_) (fun c8 => ?_)
    · skip
      refine z_aload_n C0 hl 0 rfl dX12_shortestDelay_22 ?_
      refine z_iload_n C0 hl 1 rfl dX12_shortestDelay_23 ?_
      refine z_invVv (As := [.int (zI x0)]) (rest := []) C0 Wd (ct_X12_finds l g ad zM0 zF0 x0 hx0 hT) kv_X12_finds zN398 (zE_9 zK398) rfl zk_1741 rfl hl.1 rfl (Nat.le_of_ble_eq_true rfl) (by decide) (by decide) dX12_shortestDelay_24 (fun zMr9 zFr9 H locs hp Wd => ?_)
      rcases hp with ⟨r_r9, hr9_0_0, rfl, rfl⟩
      · skip
        refine z_aload_n C0 hl 0 rfl dX12_shortestDelay_27 ?_
        refine z_aload_n C0 hl 0 rfl dX12_shortestDelay_28 ?_
        refine zg_9_7 C0 Wd zN398 zK398 zk_1619 dX12_shortestDelay_29 ?_
        refine z_iload_n C0 hl 2 rfl dX12_shortestDelay_32 ?_
        refine z_iald C0 Wd zN404 zK404 zL404 (by omega) (by omega) (by decide) dX12_shortestDelay_33 ?_
        obtain ⟨he13, hz11⟩ : ((zrow zM0 404 r_r9) 404 x1) = (r_r9 x1) ∧ zR (r_r9 x1) := (fun q => ⟨q, q ▸ Wd.rm _ _⟩) (congrFun (zrow_same _ _ _) _)
        refine z_top (congrArg zI he13) ?_
        clear he13
        refine z_sipush C0 dX12_shortestDelay_34 (by decide) ?_
        refine z_icmp_ne C0 (tgt := 44) hz11 (zR_mk (by decide) (by decide)) dX12_shortestDelay_37 (by decide) (fun c14 => ?_) (fun c14 => ?_)
        · skip
          refine z_iconst C0 dX12_shortestDelay_44 ?_
          refine zp_9_8 C0 Wd zN398 zK398 (zR_mk (by decide) (by decide)) zk_1620 dX12_shortestDelay_45 (fun H locs Wd => ?_)
          refine z_aload_n C0 hl 0 rfl dX12_shortestDelay_48 ?_
          refine zg_9_8 C0 Wd zN398 zK398 zk_1620 dX12_shortestDelay_49 ?_
          obtain ⟨he17, hz15⟩ : ((zu (zrow zM0 404 r_r9) 398 8 0) 398 8) = 0 ∧ zR 0 := (fun q => ⟨q, q ▸ Wd.rm _ _⟩) (zu_same _ _ _ _)
          refine z_top (congrArg zI he17) ?_
          clear he17
          refine z_if_le C0 (tgt := 59) (zR_mk (by decide) (by decide)) dX12_shortestDelay_52 (by decide) (fun _ => ?_) (fun h => absurd h (by decide))
          refine z_aload_n C0 hl 0 rfl dX12_shortestDelay_59 ?_
          refine zg_9_7 C0 Wd zN398 zK398 zk_1619 dX12_shortestDelay_60 ?_
          refine z_iload_n C0 hl 2 rfl dX12_shortestDelay_63 ?_
          refine z_iald C0 Wd zN404 zK404 zL404 (by omega) (by omega) (by decide) dX12_shortestDelay_64 ?_
          obtain ⟨he21, hz19⟩ : ((zu (zrow zM0 404 r_r9) 398 8 0) 404 x1) = (r_r9 x1) ∧ zR (r_r9 x1) := (fun q => ⟨q, q ▸ Wd.rm _ _⟩) ((zu_ne (by omega)).trans (congrFun (zrow_same _ _ _) _))
          refine z_top (congrArg zI he21) ?_
          clear he21
          exact z_iret C0 Wd hret hlk hz19 (by have e : zqSD x0 x1 (zM0 399) = ((0, (r_r9 x1)) : zQu) := (by unfold zqSD; rw [← hr9_0_0 x1 (by omega) (by omega)]; rw [if_neg (by omega), if_neg (by assumption)]); rw [e]; exact ⟨_, rfl, rfl, rfl⟩) dX12_shortestDelay_65
        · skip
          refine z_iconst C0 dX12_shortestDelay_40 ?_
          refine z_goto C0 (tgt := 45) dX12_shortestDelay_41 (by decide) ?_
          refine zp_9_8 C0 Wd zN398 zK398 (zR_mk (by decide) (by decide)) zk_1620 dX12_shortestDelay_45 (fun H locs Wd => ?_)
          refine z_aload_n C0 hl 0 rfl dX12_shortestDelay_48 ?_
          refine zg_9_8 C0 Wd zN398 zK398 zk_1620 dX12_shortestDelay_49 ?_
          obtain ⟨he24, hz22⟩ : ((zu (zrow zM0 404 r_r9) 398 8 2) 398 8) = 2 ∧ zR 2 := (fun q => ⟨q, q ▸ Wd.rm _ _⟩) (zu_same _ _ _ _)
          refine z_top (congrArg zI he24) ?_
          clear he24
          refine z_if_le C0 (tgt := 59) (zR_mk (by decide) (by decide)) dX12_shortestDelay_52 (by decide) (fun h => absurd h (by decide)) (fun _ => ?_)
          refine z_iconst C0 dX12_shortestDelay_55 ?_
          refine z_goto C0 (tgt := 65) dX12_shortestDelay_56 (by decide) ?_
          exact z_iret C0 Wd hret hlk (zR_mk (by decide) (by decide)) (by have e : zqSD x0 x1 (zM0 399) = ((2, 0) : zQu) := (by unfold zqSD; rw [← hr9_0_0 x1 (by omega) (by omega)]; rw [if_neg (by omega), if_pos (by assumption)]); rw [e]; exact ⟨_, rfl, rfl, rfl⟩) dX12_shortestDelay_65
    · skip
      refine z_aload_n C0 hl 0 rfl dX12_shortestDelay_16 ?_
      refine z_iconst C0 dX12_shortestDelay_17 ?_
      refine z_invVi (As := [.int (zI 1)]) (rest := []) C0 Wd (ct_X12_fails l g ad zM0 zF0 1 (zR_mk (by decide) (by decide))) kv_X12_fails zN398 (zE_9 zK398) rfl zk_1687 rfl hl.1 rfl (Nat.le_of_ble_eq_true rfl) (by decide) (by decide) dX12_shortestDelay_18 (fun r26 zMr26 zFr26 H locs hrr26 hp Wd => ?_)
      obtain ⟨rfl, rfl, rfl⟩ := hp
      exact z_iret C0 Wd hret hlk (zR_mk (by decide) (by decide)) (by have e : zqSD x0 x1 (zM0 399) = ((1, 0) : zQu) := (by unfold zqSD; rw [if_pos (by omega)]); rw [e]; exact ⟨zM0 404, rfl, by rw [zrow_eta], rfl⟩) dX12_shortestDelay_21
theorem kv_X12_shortestDelayBySearch : zKV yX12_shortestDelayBySearch cX12_shortestDelayBySearch 3 (some .int) "DrumWarrenModel" 2 := ⟨zk_1748, zk_1746, zk_1747, zk_80, by decide, by decide, by decide +kernel⟩
set_option maxHeartbeats 4000000 in
set_option maxRecDepth 100000 in
theorem ct_X12_shortestDelayBySearch (l : Launch) (g : zG) (ad : Int → Nat) (zM0 zF0 : zMem) (x0 : Int) (hx0 : zR x0) (x1 : Int) (hx1 : zR x1) (h0 : 0 ≤ zM0 399 0 ∧ zM0 399 0 ≤ 8) (hT : ∀ i, 8 ≤ i → i < 72 → 0 ≤ zM0 399 i ∧ zM0 399 i ≤ 9) : zMt l yX12_shortestDelayBySearch cX12_shortestDelayBySearch 3 (some .int) 3 0 0 g 410 ad [.ref (ad 398), .int (zI x0), .int (zI x1)] zM0 zF0 (zPi (fun r M' F' => (∃ w : Int → Int, (zqSD x0 x1 (zM0 399)).2 = r ∧ (zu (zrow zM0 404 w) 398 8 (zqSD x0 x1 (zM0 399)).1) = M' ∧ zF0 = F'))) := by
  refine zMt.of "DrumWarrenModel" rfl (by decide) (Nat.le_of_ble_eq_true rfl) (fun {p e s m args below meth c ls} C0 Wd hl hret hlk hin => ?_)
  have hl : lv_has ls 3 [(0, .ref (ad 398)), (1, .int (zI x0)), (2, .int (zI x1))] := hl
  refine z_aload_n C0 hl 0 rfl dX12_shortestDelayBySearch_0 ?_
  refine z_iload_n C0 hl 1 rfl dX12_shortestDelayBySearch_1 ?_
  refine z_iload_n C0 hl 2 rfl dX12_shortestDelayBySearch_2 ?_
  refine z_invVi (As := [.int (zI x0), .int (zI x1)]) (rest := []) C0 Wd (ct_X12_shortestDelay l g ad zM0 zF0 x0 hx0 x1 hx1 (by omega) hT) kv_X12_shortestDelay zN398 (zE_9 zK398) rfl zk_1749 rfl hl.1 rfl (Nat.le_of_ble_eq_true rfl) (by decide) (by decide) dX12_shortestDelayBySearch_3 (fun r1 zMr1 zFr1 H locs hrr1 hp Wd => ?_)
  rcases hp with ⟨w_r1, rfl, rfl, rfl⟩
  · skip
    exact z_iret C0 Wd hret hlk hrr1 ⟨_, rfl, rfl, rfl⟩ dX12_shortestDelayBySearch_6
theorem kv_X12_hareByReceived : zKV yX12_hareByReceived cX12_hareByReceived 8 (some .int) "DrumWarrenModel" 1 := ⟨zk_1844, zk_1842, zk_1843, zk_80, by decide, by decide, by decide +kernel⟩
set_option maxHeartbeats 4000000 in
set_option maxRecDepth 100000 in
theorem ct_X12_hareByReceived (l : Launch) (g : zG) (ad : Int → Nat) (zM0 zF0 : zMem) (x0 : Int) (hx0 : zR x0) (h1 : 0 ≤ zM0 399 1 ∧ zM0 399 1 ≤ 6) (hr2 : ∀ h, 0 ≤ h → h < zM0 399 1 → 0 ≤ zM0 399 (72 + 4 * h + 2) ∧ zM0 399 (72 + 4 * h + 2) ≤ 100000000) : zMt l yX12_hareByReceived cX12_hareByReceived 8 (some .int) 2 0 0 g 410 ad [.ref (ad 398), .int (zI x0)] zM0 zF0 (zPi (fun r M' F' => (zqHR x0 (zM0 399)).2 = r ∧ (zu zM0 398 8 (zqHR x0 (zM0 399)).1) = M' ∧ zF0 = F')) := by
  refine zMt.of "DrumWarrenModel" rfl (by decide) (Nat.le_of_ble_eq_true rfl) (fun {p e s m args below meth c ls} C0 Wd hl hret hlk hin => ?_)
  have hl : lv_has ls 8 [(0, .ref (ad 398)), (1, .int (zI x0))] := hl
  refine z_iconst C0 dX12_hareByReceived_0 ?_
  refine z_istore_n C0 hl [(2, .int (zI 0)), (0, .ref (ad 398)), (1, .int (zI x0))] (by decide) rfl dX12_hareByReceived_1 (fun ls hl => ?_)
  refine z_aload_n C0 hl 1 rfl dX12_hareByReceived_2 ?_
  refine z_aload_n C0 hl 1 rfl dX12_hareByReceived_3 ?_
  refine z_iload_n C0 hl 2 rfl dX12_hareByReceived_4 ?_
  refine z_invVi (As := [.int (zI x0)]) (rest := [.ref (ad 398)]) C0 Wd (ct_X12_isHare l g ad zM0 zF0 x0 hx0 (by omega)) kv_X12_isHare zN398 (zE_9 zK398) rfl zk_1793 rfl hl.1 rfl (Nat.le_of_ble_eq_true rfl) (by decide) (by decide) dX12_hareByReceived_5 (fun r1 zMr1 zFr1 H locs hrr1 hp Wd => ?_)
  obtain ⟨rfl, rfl, rfl⟩ := hp
  refine z_invVi (As := [.int (zI (zb (0 ≤ x0 ∧ x0 < (zM0 399 1))))]) (rest := []) C0 Wd (ct_X12_isThere l g ad zM0 zF0 (0 ≤ x0 ∧ x0 < (zM0 399 1))) kv_X12_isThere zN398 (zE_9 zK398) rfl zk_1754 rfl hl.1 rfl (Nat.le_of_ble_eq_true rfl) (by decide) (by decide) dX12_hareByReceived_8 (fun r3 zMr3 zFr3 H locs hrr3 hp Wd => ?_)
  obtain ⟨rfl, rfl, rfl⟩ := hp
  refine z_istore_n C0 hl [(3, .int (zI (zb ((0 ≤ x0 ∧ x0 < (zM0 399 1)))))), (2, .int (zI 0)), (0, .ref (ad 398)), (1, .int (zI x0))] (by decide) rfl dX12_hareByReceived_11 (fun ls hl => ?_)
  refine z_iconst C0 dX12_hareByReceived_12 ?_
  refine z_istore C0 hl [(4, .int (zI 0)), (3, .int (zI (zb ((0 ≤ x0 ∧ x0 < (zM0 399 1)))))), (2, .int (zI 0)), (0, .ref (ad 398)), (1, .int (zI x0))] (by decide) rfl dX12_hareByReceived_13 (fun ls hl => ?_)
  have aft15 : ∀ (k15 : Nat) (hk15 : (k15 : Int) ≤ (zM0 399 1)) (v2 : Int) (hv2 : v2 = zhr x0 (zM0 399) k15) (hp : (0 ≤ x0 ∧ x0 < (zM0 399 1)) ∨ k15 = 0) (hx : (k15 : Int) = zM0 399 1 ∨ ¬ (0 ≤ x0 ∧ x0 < (zM0 399 1))) (H : Heap) (locs : List Loc) (ls : Array Slot) (Wd : zW g (zA 410 ad s.heap.size) s.heap 410 ad (zu zM0 398 8 (zb (¬ (0 ≤ x0 ∧ x0 < (zM0 399 1))))) zF0 H locs) (hl : lv_has ls 8 [(0, .ref (ad 398)), (1, .int (zI x0)), (2, .int (zI v2)), (3, .int (zI (zb ((0 ≤ x0 ∧ x0 < (zM0 399 1)))))), (4, .int (zI (k15 : Int)))]), W p l e (zrm 2 0 0) s m args below meth c H locs 0 0 (zMQ below g 410 ad (zPi (fun r M' F' => (zqHR x0 (zM0 399)).2 = r ∧ (zu zM0 398 8 (zqHR x0 (zM0 399)).1) = M' ∧ zF0 = F')) args s 0 0) (F0 m 116 ls []) := by
    intro k15 hk15 v2 hv2 hp hx H locs ls Wd hl
    replace hl : lv_has ls 8 [(0, .ref (ad 398)), (1, .int (zI x0)), (2, .int (zI v2)), (3, .int (zI (zb ((0 ≤ x0 ∧ x0 < (zM0 399 1))))))] := lv_sub hl [0, 1, 2, 3] rfl
    have hb2 := zhr_bd (k := x0) (V := zM0 399) k15
    rw [← hv2] at hb2
    refine z_iload_n C0 hl 2 rfl dX12_hareByReceived_116 ?_
    exact z_iret C0 Wd hret hlk (zR_mk (by omega) (by omega)) (by rw [zhr_end hv2 hp hx]; exact ⟨rfl, rfl, rfl⟩) dX12_hareByReceived_117
  have lp15 : ∀ (d15 k15 : Nat) (hk15 : (k15 : Int) + d15 = (zM0 399 1)) (v2 : Int) (hv2 : v2 = zhr x0 (zM0 399) k15) (hp : (0 ≤ x0 ∧ x0 < (zM0 399 1)) ∨ k15 = 0) (H : Heap) (locs : List Loc) (ls : Array Slot) (Wd : zW g (zA 410 ad s.heap.size) s.heap 410 ad (zu zM0 398 8 (zb (¬ (0 ≤ x0 ∧ x0 < (zM0 399 1))))) zF0 H locs) (hl : lv_has ls 8 [(0, .ref (ad 398)), (1, .int (zI x0)), (2, .int (zI v2)), (3, .int (zI (zb ((0 ≤ x0 ∧ x0 < (zM0 399 1)))))), (4, .int (zI (k15 : Int)))]), W p l e (zrm 2 0 0) s m args below meth c H locs 0 0 (zMQ below g 410 ad (zPi (fun r M' F' => (zqHR x0 (zM0 399)).2 = r ∧ (zu zM0 398 8 (zqHR x0 (zM0 399)).1) = M' ∧ zF0 = F')) args s 0 0) (F0 m 15 ls []) := by
    intro d15
    induction d15 with
    | zero =>
      intro k15 hk15 v2 hv2 hp H locs ls Wd hl
      have hb2 := zhr_bd (k := x0) (V := zM0 399) k15
      rw [← hv2] at hb2
      refine z_iload C0 hl 4 rfl dX12_hareByReceived_15 ?_
      refine z_aload_n C0 hl 0 rfl dX12_hareByReceived_17 ?_
      refine zg_9_0 C0 Wd zN398 zK398 zk_1612 dX12_hareByReceived_18 ?_
      refine z_iconst C0 dX12_hareByReceived_21 ?_
      refine z_iald C0 Wd zN399 zK399 zL399 (by decide) (by decide) (by decide) dX12_hareByReceived_22 ?_
      obtain ⟨he7, hz5⟩ : ((zu zM0 398 8 (zb (¬ (0 ≤ x0 ∧ x0 < (zM0 399 1))))) 399 1) = (zM0 399 1) ∧ zR (zM0 399 1) := (fun q => ⟨q, q ▸ Wd.rm _ _⟩) (zu_ne (by omega))
      refine z_top (congrArg zI he7) ?_
      clear he7
      refine z_icmp_ge C0 (tgt := 116) (zR_mk (by omega) (by omega)) hz5 dX12_hareByReceived_23 (by decide) (fun c8 => ?_) (fun c8 => ?_)
      · skip
        first | exact aft15 k15 (by omega) v2 hv2 hp (by first | assumption | omega) _ _ _ Wd (lv_sub hl [0, 1, 2, 3, 4] rfl) | (exfalso; omega)
      · skip
        refine z_iload_n C0 hl 3 rfl dX12_hareByReceived_26 ?_
        refine z_if_eq_b C0 (tgt := 116) dX12_hareByReceived_27 (by decide) (fun c9 => ?_) (fun c9 => ?_)
        · skip
          first | exact aft15 k15 (by omega) v2 hv2 hp (by first | assumption | omega) _ _ _ Wd (lv_sub hl [0, 1, 2, 3, 4] rfl) | (exfalso; omega)
        · skip
          exfalso; omega
    | succ d15 ih15 =>
      intro k15 hk15 v2 hv2 hp H locs ls Wd hl
      have hb2 := zhr_bd (k := x0) (V := zM0 399) k15
      rw [← hv2] at hb2
      refine z_iload C0 hl 4 rfl dX12_hareByReceived_15 ?_
      refine z_aload_n C0 hl 0 rfl dX12_hareByReceived_17 ?_
      refine zg_9_0 C0 Wd zN398 zK398 zk_1612 dX12_hareByReceived_18 ?_
      refine z_iconst C0 dX12_hareByReceived_21 ?_
      refine z_iald C0 Wd zN399 zK399 zL399 (by decide) (by decide) (by decide) dX12_hareByReceived_22 ?_
      obtain ⟨he12, hz10⟩ : ((zu zM0 398 8 (zb (¬ (0 ≤ x0 ∧ x0 < (zM0 399 1))))) 399 1) = (zM0 399 1) ∧ zR (zM0 399 1) := (fun q => ⟨q, q ▸ Wd.rm _ _⟩) (zu_ne (by omega))
      refine z_top (congrArg zI he12) ?_
      clear he12
      refine z_icmp_ge C0 (tgt := 116) (zR_mk (by omega) (by omega)) hz10 dX12_hareByReceived_23 (by decide) (fun c13 => ?_) (fun c13 => ?_)
      · skip
        first | exact aft15 k15 (by omega) v2 hv2 hp (by first | assumption | omega) _ _ _ Wd (lv_sub hl [0, 1, 2, 3, 4] rfl) | (exfalso; omega)
      · skip
        refine z_iload_n C0 hl 3 rfl dX12_hareByReceived_26 ?_
        refine z_if_eq_b C0 (tgt := 116) dX12_hareByReceived_27 (by decide) (fun c14 => ?_) (fun c14 => ?_)
        · skip
          first | exact aft15 k15 (by omega) v2 hv2 hp (by first | assumption | omega) _ _ _ Wd (lv_sub hl [0, 1, 2, 3, 4] rfl) | (exfalso; omega)
        · skip
          refine z_iconst C0 dX12_hareByReceived_30 ?_
          refine z_istore C0 hl [(5, .int (zI 0)), (0, .ref (ad 398)), (1, .int (zI x0)), (2, .int (zI v2)), (3, .int (zI (zb ((0 ≤ x0 ∧ x0 < (zM0 399 1)))))), (4, .int (zI (k15 : Int)))] (by decide) rfl dX12_hareByReceived_31 (fun ls hl => ?_)
          refine z_iconst C0 dX12_hareByReceived_33 ?_
          refine z_istore C0 hl [(6, .int (zI 0)), (5, .int (zI 0)), (0, .ref (ad 398)), (1, .int (zI x0)), (2, .int (zI v2)), (3, .int (zI (zb ((0 ≤ x0 ∧ x0 < (zM0 399 1)))))), (4, .int (zI (k15 : Int)))] (by decide) rfl dX12_hareByReceived_34 (fun ls hl => ?_)
          have aft36 : ∀ (k36 : Nat) (hk36 : (k36 : Int) ≤ (zM0 399 1)) (v5 : Int) (hv5 : v5 = zcnt (fun q => 0 < zM0 399 (72 + 4 * q + 2) - zM0 399 (72 + 4 * (k15 : Int) + 2) ∨ (zM0 399 (72 + 4 * q + 2) - zM0 399 (72 + 4 * (k15 : Int) + 2) = 0 ∧ q < (k15 : Int))) k36) (hw5 : 0 ≤ v5 ∧ v5 ≤ k36) (hx36 : (k36 : Int) = (zM0 399 1)) (H : Heap) (locs : List Loc) (ls : Array Slot) (Wd : zW g (zA 410 ad s.heap.size) s.heap 410 ad (zu zM0 398 8 (zb (¬ (0 ≤ x0 ∧ x0 < (zM0 399 1))))) zF0 H locs) (hl : lv_has ls 8 [(0, .ref (ad 398)), (1, .int (zI x0)), (2, .int (zI v2)), (3, .int (zI (zb ((0 ≤ x0 ∧ x0 < (zM0 399 1)))))), (4, .int (zI (k15 : Int))), (5, .int (zI v5)), (6, .int (zI (k36 : Int)))]), W p l e (zrm 2 0 0) s m args below meth c H locs 0 0 (zMQ below g 410 ad (zPi (fun r M' F' => (zqHR x0 (zM0 399)).2 = r ∧ (zu zM0 398 8 (zqHR x0 (zM0 399)).1) = M' ∧ zF0 = F')) args s 0 0) (F0 m 97 ls []) := by
            intro k36 hk36 v5 hv5 hw5 hx36 H locs ls Wd hl
            replace hl : lv_has ls 8 [(0, .ref (ad 398)), (1, .int (zI x0)), (2, .int (zI v2)), (3, .int (zI (zb ((0 ≤ x0 ∧ x0 < (zM0 399 1)))))), (4, .int (zI (k15 : Int))), (5, .int (zI v5))] := lv_sub hl [0, 1, 2, 3, 4, 5] rfl
            have hv5k : k36 = (zM0 399 1).toNat := by omega
            refine z_iload C0 hl 5 rfl dX12_hareByReceived_97 ?_
            refine z_iload_n C0 hl 1 rfl dX12_hareByReceived_99 ?_
            refine z_icmp_ne C0 (tgt := 108) (zR_mk (by omega) (by omega)) hx0 dX12_hareByReceived_100 (by decide) (fun c15 => ?_) (fun c15 => ?_)
            · skip
              refine z_iload_n C0 hl 2 rfl dX12_hareByReceived_108 ?_
              refine z_istore_n C0 hl [(2, .int (zI v2)), (0, .ref (ad 398)), (1, .int (zI x0)), (3, .int (zI (zb ((0 ≤ x0 ∧ x0 < (zM0 399 1)))))), (4, .int (zI (k15 : Int))), (5, .int (zI v5))] (by decide) rfl dX12_hareByReceived_109 (fun ls hl => ?_)
              refine z_iinc C0 hl 4 (t := (k15 : Int)) (u := ((k15 : Int) + 1)) rfl (by omega) [(4, .int (zI ((k15 : Int) + 1))), (2, .int (zI v2)), (0, .ref (ad 398)), (1, .int (zI x0)), (3, .int (zI (zb ((0 ≤ x0 ∧ x0 < (zM0 399 1)))))), (5, .int (zI v5))] (by decide) rfl dX12_hareByReceived_110 (fun ls hl => ?_)
              refine z_goto C0 (tgt := 15) dX12_hareByReceived_113 (by decide) ?_
              exact ih15 (k15 + 1) (by omega) v2 (zhr_step hv2 (by rw [hv5k] at hv5; first | exact Or.inl ⟨by show zcnt _ _ = _; rw [← hv5]; assumption, rfl⟩ | exact Or.inr ⟨by show ¬ zcnt _ _ = _; rw [← hv5]; assumption, rfl⟩)) (Or.inl ⟨by omega, by omega⟩) _ _ _ Wd (lv_sub hl [2, 3, 1, 4, 0] rfl)
            · skip
              refine z_iload C0 hl 4 rfl dX12_hareByReceived_103 ?_
              refine z_goto C0 (tgt := 109) dX12_hareByReceived_105 (by decide) ?_
              refine z_istore_n C0 hl [(2, .int (zI (k15 : Int))), (0, .ref (ad 398)), (1, .int (zI x0)), (3, .int (zI (zb ((0 ≤ x0 ∧ x0 < (zM0 399 1)))))), (4, .int (zI (k15 : Int))), (5, .int (zI v5))] (by decide) rfl dX12_hareByReceived_109 (fun ls hl => ?_)
              refine z_iinc C0 hl 4 (t := (k15 : Int)) (u := ((k15 : Int) + 1)) rfl (by omega) [(4, .int (zI ((k15 : Int) + 1))), (2, .int (zI (k15 : Int))), (0, .ref (ad 398)), (1, .int (zI x0)), (3, .int (zI (zb ((0 ≤ x0 ∧ x0 < (zM0 399 1)))))), (5, .int (zI v5))] (by decide) rfl dX12_hareByReceived_110 (fun ls hl => ?_)
              refine z_goto C0 (tgt := 15) dX12_hareByReceived_113 (by decide) ?_
              exact ih15 (k15 + 1) (by omega) (k15 : Int) (zhr_step hv2 (by rw [hv5k] at hv5; first | exact Or.inl ⟨by show zcnt _ _ = _; rw [← hv5]; assumption, rfl⟩ | exact Or.inr ⟨by show ¬ zcnt _ _ = _; rw [← hv5]; assumption, rfl⟩)) (Or.inl ⟨by omega, by omega⟩) _ _ _ Wd (lv_sub hl [2, 3, 1, 4, 0] rfl)
          have lp36 : ∀ (d36 k36 : Nat) (hk36 : (k36 : Int) + d36 = (zM0 399 1)) (v5 : Int) (hv5 : v5 = zcnt (fun q => 0 < zM0 399 (72 + 4 * q + 2) - zM0 399 (72 + 4 * (k15 : Int) + 2) ∨ (zM0 399 (72 + 4 * q + 2) - zM0 399 (72 + 4 * (k15 : Int) + 2) = 0 ∧ q < (k15 : Int))) k36) (hw5 : 0 ≤ v5 ∧ v5 ≤ k36) (H : Heap) (locs : List Loc) (ls : Array Slot) (Wd : zW g (zA 410 ad s.heap.size) s.heap 410 ad (zu zM0 398 8 (zb (¬ (0 ≤ x0 ∧ x0 < (zM0 399 1))))) zF0 H locs) (hl : lv_has ls 8 [(0, .ref (ad 398)), (1, .int (zI x0)), (2, .int (zI v2)), (3, .int (zI (zb ((0 ≤ x0 ∧ x0 < (zM0 399 1)))))), (4, .int (zI (k15 : Int))), (5, .int (zI v5)), (6, .int (zI (k36 : Int)))]), W p l e (zrm 2 0 0) s m args below meth c H locs 0 0 (zMQ below g 410 ad (zPi (fun r M' F' => (zqHR x0 (zM0 399)).2 = r ∧ (zu zM0 398 8 (zqHR x0 (zM0 399)).1) = M' ∧ zF0 = F')) args s 0 0) (F0 m 36 ls []) := by
            intro d36
            induction d36 with
            | zero =>
              intro k36 hk36 v5 hv5 hw5 H locs ls Wd hl
              refine z_iload C0 hl 6 rfl dX12_hareByReceived_36 ?_
              refine z_aload_n C0 hl 0 rfl dX12_hareByReceived_38 ?_
              refine zg_9_0 C0 Wd zN398 zK398 zk_1612 dX12_hareByReceived_39 ?_
              refine z_iconst C0 dX12_hareByReceived_42 ?_
              refine z_iald C0 Wd zN399 zK399 zL399 (by decide) (by decide) (by decide) dX12_hareByReceived_43 ?_
              obtain ⟨he18, hz16⟩ : ((zu zM0 398 8 (zb (¬ (0 ≤ x0 ∧ x0 < (zM0 399 1))))) 399 1) = (zM0 399 1) ∧ zR (zM0 399 1) := (fun q => ⟨q, q ▸ Wd.rm _ _⟩) (zu_ne (by omega))
              refine z_top (congrArg zI he18) ?_
              clear he18
              refine z_icmp_ge C0 (tgt := 97) (zR_mk (by omega) (by omega)) hz16 dX12_hareByReceived_44 (by decide) (fun c19 => ?_) (fun c19 => ?_)
              · skip
                first | exact aft36 k36 (by omega) v5 hv5 hw5 (by first | assumption | omega) _ _ _ Wd (lv_sub hl [0, 1, 2, 3, 4, 5, 6] rfl) | (exfalso; omega)
              · skip
                exfalso; omega
            | succ d36 ih36 =>
              intro k36 hk36 v5 hv5 hw5 H locs ls Wd hl
              refine z_iload C0 hl 6 rfl dX12_hareByReceived_36 ?_
              refine z_aload_n C0 hl 0 rfl dX12_hareByReceived_38 ?_
              refine zg_9_0 C0 Wd zN398 zK398 zk_1612 dX12_hareByReceived_39 ?_
              refine z_iconst C0 dX12_hareByReceived_42 ?_
              refine z_iald C0 Wd zN399 zK399 zL399 (by decide) (by decide) (by decide) dX12_hareByReceived_43 ?_
              obtain ⟨he22, hz20⟩ : ((zu zM0 398 8 (zb (¬ (0 ≤ x0 ∧ x0 < (zM0 399 1))))) 399 1) = (zM0 399 1) ∧ zR (zM0 399 1) := (fun q => ⟨q, q ▸ Wd.rm _ _⟩) (zu_ne (by omega))
              refine z_top (congrArg zI he22) ?_
              clear he22
              refine z_icmp_ge C0 (tgt := 97) (zR_mk (by omega) (by omega)) hz20 dX12_hareByReceived_44 (by decide) (fun c23 => ?_) (fun c23 => ?_)
              · skip
                first | exact aft36 k36 (by omega) v5 hv5 hw5 (by first | assumption | omega) _ _ _ Wd (lv_sub hl [0, 1, 2, 3, 4, 5, 6] rfl) | (exfalso; omega)
              · skip
                refine z_aload_n C0 hl 0 rfl dX12_hareByReceived_47 ?_
                refine z_iload C0 hl 6 rfl dX12_hareByReceived_48 ?_
                refine z_iconst C0 dX12_hareByReceived_50 ?_
                refine z_invVi (As := [.int (zI (k36 : Int)), .int (zI 2)]) (rest := []) C0 Wd (ct_X12_hare l g ad (zu zM0 398 8 (zb (¬ (0 ≤ x0 ∧ x0 < (zM0 399 1))))) zF0 (k36 : Int) (zR_mk (by omega) (by omega)) 2 (zR_mk (by decide) (by decide)) (by omega)) kv_X12_hare zN398 (zE_9 zK398) rfl zk_1805 rfl hl.1 rfl (Nat.le_of_ble_eq_true rfl) (by decide) (by decide) dX12_hareByReceived_51 (fun r24 zMr24 zFr24 H locs hrr24 hp Wd => ?_)
                obtain ⟨rfl, rfl, rfl⟩ := hp
                refine z_top (show zI ((zu zM0 398 8 (zb (¬ (0 ≤ x0 ∧ x0 < (zM0 399 1))))) 399 (72 + 4 * (k36 : Int) + 2)) = zI (zM0 399 (72 + 4 * (k36 : Int) + 2)) from rfl) ?_
                replace hrr24 : zR (zM0 399 (72 + 4 * (k36 : Int) + 2)) := hrr24
                refine z_aload_n C0 hl 0 rfl dX12_hareByReceived_54 ?_
                refine z_iload C0 hl 4 rfl dX12_hareByReceived_55 ?_
                refine z_iconst C0 dX12_hareByReceived_57 ?_
                refine z_invVi (As := [.int (zI (k15 : Int)), .int (zI 2)]) (rest := [.int (zI (zM0 399 (72 + 4 * (k36 : Int) + 2)))]) C0 Wd (ct_X12_hare l g ad (zu zM0 398 8 (zb (¬ (0 ≤ x0 ∧ x0 < (zM0 399 1))))) zF0 (k15 : Int) (zR_mk (by omega) (by omega)) 2 (zR_mk (by decide) (by decide)) (by omega)) kv_X12_hare zN398 (zE_9 zK398) rfl zk_1805 rfl hl.1 rfl (Nat.le_of_ble_eq_true rfl) (by decide) (by decide) dX12_hareByReceived_58 (fun r26 zMr26 zFr26 H locs hrr26 hp Wd => ?_)
                obtain ⟨rfl, rfl, rfl⟩ := hp
                refine z_top (show zI ((zu zM0 398 8 (zb (¬ (0 ≤ x0 ∧ x0 < (zM0 399 1))))) 399 (72 + 4 * (k15 : Int) + 2)) = zI (zM0 399 (72 + 4 * (k15 : Int) + 2)) from rfl) ?_
                replace hrr26 : zR (zM0 399 (72 + 4 * (k15 : Int) + 2)) := hrr26
                refine z_isub C0 dX12_hareByReceived_61 ?_
                have hq1 := hr2 (k36 : Int) (by omega) (by omega)
                have hq2 := hr2 (k15 : Int) (by omega) (by omega)
                refine z_istore C0 hl [(7, .int (zI ((zM0 399 (72 + 4 * (k36 : Int) + 2)) - (zM0 399 (72 + 4 * (k15 : Int) + 2))))), (0, .ref (ad 398)), (1, .int (zI x0)), (2, .int (zI v2)), (3, .int (zI (zb ((0 ≤ x0 ∧ x0 < (zM0 399 1)))))), (4, .int (zI (k15 : Int))), (5, .int (zI v5)), (6, .int (zI (k36 : Int)))] (by decide) rfl dX12_hareByReceived_62 (fun ls hl => ?_)
                refine z_iload C0 hl 6 rfl dX12_hareByReceived_64 ?_
                refine z_iload C0 hl 0 rfl dX12_hareByReceived_66 ?_
                refine z_if_gt C0 (tgt := 83) (by have q0 := hrr24.1; have p0 := hrr24.2; have q1 := hrr26.1; have p1 := hrr26.2; exact zR_mk (by omega) (by omega)) dX12_hareByReceived_68 (by decide) (fun c28 => ?_) (fun c28 => ?_)
                · skip
                  refine z_iconst C0 dX12_hareByReceived_83 ?_
                  refine z_goto C0 (tgt := 88) dX12_hareByReceived_84 (by decide) ?_
                  refine z_iadd C0 dX12_hareByReceived_88 ?_
                  refine z_istore C0 hl [(5, .int (zI (v5 + 1))), (7, .int (zI ((zM0 399 (72 + 4 * (k36 : Int) + 2)) - (zM0 399 (72 + 4 * (k15 : Int) + 2))))), (0, .ref (ad 398)), (1, .int (zI x0)), (2, .int (zI v2)), (3, .int (zI (zb ((0 ≤ x0 ∧ x0 < (zM0 399 1)))))), (4, .int (zI (k15 : Int))), (6, .int (zI (k36 : Int)))] (by decide) rfl dX12_hareByReceived_89 (fun ls hl => ?_)
                  refine z_iinc C0 hl 7 (t := (k36 : Int)) (u := ((k36 : Int) + 1)) rfl (by omega) [(6, .int (zI ((k36 : Int) + 1))), (5, .int (zI (v5 + 1))), (7, .int (zI ((zM0 399 (72 + 4 * (k36 : Int) + 2)) - (zM0 399 (72 + 4 * (k15 : Int) + 2))))), (0, .ref (ad 398)), (1, .int (zI x0)), (2, .int (zI v2)), (3, .int (zI (zb ((0 ≤ x0 ∧ x0 < (zM0 399 1)))))), (4, .int (zI (k15 : Int)))] (by decide) rfl dX12_hareByReceived_91 (fun ls hl => ?_)
                  refine z_goto C0 (tgt := 36) dX12_hareByReceived_94 (by decide) ?_
                  exact ih36 (k36 + 1) (by omega) (v5 + 1) (zcnt_step hv5 (by first | exact Or.inl ⟨Or.inl (by omega), rfl⟩ | exact Or.inl ⟨Or.inr ⟨by omega, by omega⟩, rfl⟩ | exact Or.inr ⟨by omega, rfl⟩)) (by omega) _ _ _ Wd (lv_sub hl [3, 4, 5, 6, 7, 1, 0] rfl)
                · skip
                  refine z_iload C0 hl 0 rfl dX12_hareByReceived_71 ?_
                  refine z_if_ne C0 (tgt := 87) (by have q0 := hrr24.1; have p0 := hrr24.2; have q1 := hrr26.1; have p1 := hrr26.2; exact zR_mk (by omega) (by omega)) dX12_hareByReceived_73 (by decide) (fun c29 => ?_) (fun c29 => ?_)
                  · skip
                    refine z_iconst C0 dX12_hareByReceived_87 ?_
                    refine z_iadd C0 dX12_hareByReceived_88 ?_
                    refine z_istore C0 hl [(5, .int (zI (v5 + 0))), (7, .int (zI ((zM0 399 (72 + 4 * (k36 : Int) + 2)) - (zM0 399 (72 + 4 * (k15 : Int) + 2))))), (0, .ref (ad 398)), (1, .int (zI x0)), (2, .int (zI v2)), (3, .int (zI (zb ((0 ≤ x0 ∧ x0 < (zM0 399 1)))))), (4, .int (zI (k15 : Int))), (6, .int (zI (k36 : Int)))] (by decide) rfl dX12_hareByReceived_89 (fun ls hl => ?_)
                    refine z_iinc C0 hl 7 (t := (k36 : Int)) (u := ((k36 : Int) + 1)) rfl (by omega) [(6, .int (zI ((k36 : Int) + 1))), (5, .int (zI (v5 + 0))), (7, .int (zI ((zM0 399 (72 + 4 * (k36 : Int) + 2)) - (zM0 399 (72 + 4 * (k15 : Int) + 2))))), (0, .ref (ad 398)), (1, .int (zI x0)), (2, .int (zI v2)), (3, .int (zI (zb ((0 ≤ x0 ∧ x0 < (zM0 399 1)))))), (4, .int (zI (k15 : Int)))] (by decide) rfl dX12_hareByReceived_91 (fun ls hl => ?_)
                    refine z_goto C0 (tgt := 36) dX12_hareByReceived_94 (by decide) ?_
                    exact ih36 (k36 + 1) (by omega) (v5 + 0) (zcnt_step hv5 (by first | exact Or.inl ⟨Or.inl (by omega), rfl⟩ | exact Or.inl ⟨Or.inr ⟨by omega, by omega⟩, rfl⟩ | exact Or.inr ⟨by omega, rfl⟩)) (by omega) _ _ _ Wd (lv_sub hl [3, 4, 5, 6, 7, 1, 0] rfl)
                  · skip
                    refine z_iload C0 hl 7 rfl dX12_hareByReceived_76 ?_
                    refine z_iload C0 hl 5 rfl dX12_hareByReceived_78 ?_
                    refine z_icmp_ge C0 (tgt := 87) (zR_mk (by omega) (by omega)) (zR_mk (by omega) (by omega)) dX12_hareByReceived_80 (by decide) (fun c30 => ?_) (fun c30 => ?_)
                    · skip
                      refine z_iconst C0 dX12_hareByReceived_87 ?_
                      refine z_iadd C0 dX12_hareByReceived_88 ?_
                      refine z_istore C0 hl [(5, .int (zI (v5 + 0))), (7, .int (zI ((zM0 399 (72 + 4 * (k36 : Int) + 2)) - (zM0 399 (72 + 4 * (k15 : Int) + 2))))), (0, .ref (ad 398)), (1, .int (zI x0)), (2, .int (zI v2)), (3, .int (zI (zb ((0 ≤ x0 ∧ x0 < (zM0 399 1)))))), (4, .int (zI (k15 : Int))), (6, .int (zI (k36 : Int)))] (by decide) rfl dX12_hareByReceived_89 (fun ls hl => ?_)
                      refine z_iinc C0 hl 7 (t := (k36 : Int)) (u := ((k36 : Int) + 1)) rfl (by omega) [(6, .int (zI ((k36 : Int) + 1))), (5, .int (zI (v5 + 0))), (7, .int (zI ((zM0 399 (72 + 4 * (k36 : Int) + 2)) - (zM0 399 (72 + 4 * (k15 : Int) + 2))))), (0, .ref (ad 398)), (1, .int (zI x0)), (2, .int (zI v2)), (3, .int (zI (zb ((0 ≤ x0 ∧ x0 < (zM0 399 1)))))), (4, .int (zI (k15 : Int)))] (by decide) rfl dX12_hareByReceived_91 (fun ls hl => ?_)
                      refine z_goto C0 (tgt := 36) dX12_hareByReceived_94 (by decide) ?_
                      exact ih36 (k36 + 1) (by omega) (v5 + 0) (zcnt_step hv5 (by first | exact Or.inl ⟨Or.inl (by omega), rfl⟩ | exact Or.inl ⟨Or.inr ⟨by omega, by omega⟩, rfl⟩ | exact Or.inr ⟨by omega, rfl⟩)) (by omega) _ _ _ Wd (lv_sub hl [3, 4, 5, 6, 7, 1, 0] rfl)
                    · skip
                      refine z_iconst C0 dX12_hareByReceived_83 ?_
                      refine z_goto C0 (tgt := 88) dX12_hareByReceived_84 (by decide) ?_
                      refine z_iadd C0 dX12_hareByReceived_88 ?_
                      refine z_istore C0 hl [(5, .int (zI (v5 + 1))), (7, .int (zI ((zM0 399 (72 + 4 * (k36 : Int) + 2)) - (zM0 399 (72 + 4 * (k15 : Int) + 2))))), (0, .ref (ad 398)), (1, .int (zI x0)), (2, .int (zI v2)), (3, .int (zI (zb ((0 ≤ x0 ∧ x0 < (zM0 399 1)))))), (4, .int (zI (k15 : Int))), (6, .int (zI (k36 : Int)))] (by decide) rfl dX12_hareByReceived_89 (fun ls hl => ?_)
                      refine z_iinc C0 hl 7 (t := (k36 : Int)) (u := ((k36 : Int) + 1)) rfl (by omega) [(6, .int (zI ((k36 : Int) + 1))), (5, .int (zI (v5 + 1))), (7, .int (zI ((zM0 399 (72 + 4 * (k36 : Int) + 2)) - (zM0 399 (72 + 4 * (k15 : Int) + 2))))), (0, .ref (ad 398)), (1, .int (zI x0)), (2, .int (zI v2)), (3, .int (zI (zb ((0 ≤ x0 ∧ x0 < (zM0 399 1)))))), (4, .int (zI (k15 : Int)))] (by decide) rfl dX12_hareByReceived_91 (fun ls hl => ?_)
                      refine z_goto C0 (tgt := 36) dX12_hareByReceived_94 (by decide) ?_
                      exact ih36 (k36 + 1) (by omega) (v5 + 1) (zcnt_step hv5 (by first | exact Or.inl ⟨Or.inl (by omega), rfl⟩ | exact Or.inl ⟨Or.inr ⟨by omega, by omega⟩, rfl⟩ | exact Or.inr ⟨by omega, rfl⟩)) (by omega) _ _ _ Wd (lv_sub hl [3, 4, 5, 6, 7, 1, 0] rfl)
          exact lp36 ((zM0 399 1)).toNat 0 (by omega) 0 rfl (by omega) _ _ _ Wd (lv_sub hl [2, 3, 4, 5, 6, 1, 0] rfl)
  exact lp15 ((zM0 399 1)).toNat 0 (by omega) 0 rfl (Or.inr rfl) _ _ _ Wd (lv_sub hl [3, 4, 2, 1, 0] rfl)
theorem kv_X12_errorPosition : zKV yX12_errorPosition cX12_errorPosition 1 (some .int) "DrumWarrenModel" 0 := ⟨zk_2058, zk_2056, zk_2057, zk_80, by decide, by decide, by decide +kernel⟩
set_option maxHeartbeats 4000000 in
set_option maxRecDepth 100000 in
theorem ct_X12_errorPosition (l : Launch) (g : zG) (ad : Int → Nat) (zM0 zF0 : zMem) : zMt l yX12_errorPosition cX12_errorPosition 1 (some .int) 2 0 0 g 410 ad [.ref (ad 398)] zM0 zF0 (zPi (fun r M' F' => (zqE (zM0 398 15)).2 = r ∧ (zu zM0 398 8 (zqE (zM0 398 15)).1) = M' ∧ zF0 = F')) := by
  refine zMt.of "DrumWarrenModel" rfl (by decide) (Nat.le_of_ble_eq_true rfl) (fun {p e s m args below meth c ls} C0 Wd hl hret hlk hin => ?_)
  have hl : lv_has ls 1 [(0, .ref (ad 398))] := hl
  refine z_aload_n C0 hl 0 rfl dX12_errorPosition_0 ?_
  refine z_aload_n C0 hl 0 rfl dX12_errorPosition_1 ?_
  refine zg_9_15 C0 Wd zN398 zK398 zk_1627 dX12_errorPosition_2 ?_
  have hz1 : zR (zM0 398 15) := Wd.rm _ _
  refine z_if_lt C0 (tgt := 12) hz1 dX12_errorPosition_5 (by decide) (fun c2 => ?_) (fun c2 => ?_)
  · skip
    refine z_iconst C0 dX12_errorPosition_12 ?_
    refine z_invVi (As := [.int (zI 0)]) (rest := []) C0 Wd (ct_X12_isThere l g ad zM0 zF0 False) kv_X12_isThere zN398 (zE_9 zK398) rfl zk_1754 rfl hl.1 rfl (Nat.le_of_ble_eq_true rfl) (by decide) (by decide) dX12_errorPosition_13 (fun r3 zMr3 zFr3 H locs hrr3 hp Wd => ?_)
    obtain ⟨rfl, rfl, rfl⟩ := hp
    replace Wd : zW g _ s.heap 410 ad (zu zM0 398 8 1) _ H locs := Wd
    refine z_top (show zI (zb (False)) = zI 0 from rfl) ?_
    replace hrr3 : zR 0 := hrr3
    refine z_if_eq C0 (tgt := 26) (zR_mk (by decide) (by decide)) dX12_errorPosition_16 (by decide) (fun _ => ?_) (fun h => absurd h (by decide))
    refine z_iconst C0 dX12_errorPosition_26 ?_
    exact z_iret C0 Wd hret hlk (zR_mk (by decide) (by decide)) (by have e : (zqE (zM0 398 15)) = ((1, 0) : zQu) := (by unfold zqE; first | (rw [if_pos (by first | assumption | omega | exact fun z => z (by assumption))]; (first | done | rfl | (rw [zb_t (by first | assumption | omega | exact fun z => z (by assumption))]; (first | done | rfl | (rw [zb_t (by first | assumption | omega | exact fun z => z (by assumption))]; done) | (rw [zb_f (by first | assumption | omega | exact fun z => z (by assumption))]; done)); done) | (rw [zb_f (by first | assumption | omega | exact fun z => z (by assumption))]; (first | done | rfl | (rw [zb_t (by first | assumption | omega | exact fun z => z (by assumption))]; done) | (rw [zb_f (by first | assumption | omega | exact fun z => z (by assumption))]; done)); done)); done) | (rw [if_neg (by first | assumption | omega | exact fun z => z (by assumption))]; (first | done | rfl | (rw [zb_t (by first | assumption | omega | exact fun z => z (by assumption))]; (first | done | rfl | (rw [zb_t (by first | assumption | omega | exact fun z => z (by assumption))]; done) | (rw [zb_f (by first | assumption | omega | exact fun z => z (by assumption))]; done)); done) | (rw [zb_f (by first | assumption | omega | exact fun z => z (by assumption))]; (first | done | rfl | (rw [zb_t (by first | assumption | omega | exact fun z => z (by assumption))]; done) | (rw [zb_f (by first | assumption | omega | exact fun z => z (by assumption))]; done)); done)); done) | (rw [if_neg (by first | assumption | omega | exact fun z => z (by assumption)), if_pos (by first | assumption | omega | exact fun z => z (by assumption))]; (first | done | rfl | (rw [zb_t (by first | assumption | omega | exact fun z => z (by assumption))]; (first | done | rfl | (rw [zb_t (by first | assumption | omega | exact fun z => z (by assumption))]; done) | (rw [zb_f (by first | assumption | omega | exact fun z => z (by assumption))]; done)); done) | (rw [zb_f (by first | assumption | omega | exact fun z => z (by assumption))]; (first | done | rfl | (rw [zb_t (by first | assumption | omega | exact fun z => z (by assumption))]; done) | (rw [zb_f (by first | assumption | omega | exact fun z => z (by assumption))]; done)); done)); done) | (rw [if_neg (by first | assumption | omega | exact fun z => z (by assumption))]; (first | done | rfl | (rw [zb_t (by first | assumption | omega | exact fun z => z (by assumption))]; (first | done | rfl | (rw [zb_t (by first | assumption | omega | exact fun z => z (by assumption))]; done) | (rw [zb_f (by first | assumption | omega | exact fun z => z (by assumption))]; done)); done) | (rw [zb_f (by first | assumption | omega | exact fun z => z (by assumption))]; (first | done | rfl | (rw [zb_t (by first | assumption | omega | exact fun z => z (by assumption))]; done) | (rw [zb_f (by first | assumption | omega | exact fun z => z (by assumption))]; done)); done)); done) | (rw [if_neg (by first | assumption | omega | exact fun z => z (by assumption)), if_neg (by first | assumption | omega | exact fun z => z (by assumption))]; (first | done | rfl | (rw [zb_t (by first | assumption | omega | exact fun z => z (by assumption))]; (first | done | rfl | (rw [zb_t (by first | assumption | omega | exact fun z => z (by assumption))]; done) | (rw [zb_f (by first | assumption | omega | exact fun z => z (by assumption))]; done)); done) | (rw [zb_f (by first | assumption | omega | exact fun z => z (by assumption))]; (first | done | rfl | (rw [zb_t (by first | assumption | omega | exact fun z => z (by assumption))]; done) | (rw [zb_f (by first | assumption | omega | exact fun z => z (by assumption))]; done)); done)); done)); rw [e]; exact ⟨rfl, rfl, rfl⟩) dX12_errorPosition_27
  · skip
    refine z_iconst C0 dX12_errorPosition_8 ?_
    refine z_goto C0 (tgt := 13) dX12_errorPosition_9 (by decide) ?_
    refine z_invVi (As := [.int (zI 1)]) (rest := []) C0 Wd (ct_X12_isThere l g ad zM0 zF0 True) kv_X12_isThere zN398 (zE_9 zK398) rfl zk_1754 rfl hl.1 rfl (Nat.le_of_ble_eq_true rfl) (by decide) (by decide) dX12_errorPosition_13 (fun r6 zMr6 zFr6 H locs hrr6 hp Wd => ?_)
    obtain ⟨rfl, rfl, rfl⟩ := hp
    replace Wd : zW g _ s.heap 410 ad (zu zM0 398 8 0) _ H locs := Wd
    refine z_top (show zI (zb (True)) = zI 1 from rfl) ?_
    replace hrr6 : zR 1 := hrr6
    refine z_if_eq C0 (tgt := 26) (zR_mk (by decide) (by decide)) dX12_errorPosition_16 (by decide) (fun h => absurd h (by decide)) (fun _ => ?_)
    refine z_aload_n C0 hl 0 rfl dX12_errorPosition_19 ?_
    refine zg_9_15 C0 Wd zN398 zK398 zk_1627 dX12_errorPosition_20 ?_
    obtain ⟨he11, hz9⟩ : ((zu zM0 398 8 0) 398 15) = (zM0 398 15) ∧ zR (zM0 398 15) := (fun q => ⟨q, q ▸ Wd.rm _ _⟩) (zu_ne (by omega))
    refine z_top (congrArg zI he11) ?_
    clear he11
    refine z_goto C0 (tgt := 27) dX12_errorPosition_23 (by decide) ?_
    exact z_iret C0 Wd hret hlk hz9 (by have e : (zqE (zM0 398 15)) = ((0, (zM0 398 15)) : zQu) := (by unfold zqE; first | (rw [if_pos (by first | assumption | omega | exact fun z => z (by assumption))]; (first | done | rfl | (rw [zb_t (by first | assumption | omega | exact fun z => z (by assumption))]; (first | done | rfl | (rw [zb_t (by first | assumption | omega | exact fun z => z (by assumption))]; done) | (rw [zb_f (by first | assumption | omega | exact fun z => z (by assumption))]; done)); done) | (rw [zb_f (by first | assumption | omega | exact fun z => z (by assumption))]; (first | done | rfl | (rw [zb_t (by first | assumption | omega | exact fun z => z (by assumption))]; done) | (rw [zb_f (by first | assumption | omega | exact fun z => z (by assumption))]; done)); done)); done) | (rw [if_neg (by first | assumption | omega | exact fun z => z (by assumption))]; (first | done | rfl | (rw [zb_t (by first | assumption | omega | exact fun z => z (by assumption))]; (first | done | rfl | (rw [zb_t (by first | assumption | omega | exact fun z => z (by assumption))]; done) | (rw [zb_f (by first | assumption | omega | exact fun z => z (by assumption))]; done)); done) | (rw [zb_f (by first | assumption | omega | exact fun z => z (by assumption))]; (first | done | rfl | (rw [zb_t (by first | assumption | omega | exact fun z => z (by assumption))]; done) | (rw [zb_f (by first | assumption | omega | exact fun z => z (by assumption))]; done)); done)); done) | (rw [if_neg (by first | assumption | omega | exact fun z => z (by assumption)), if_pos (by first | assumption | omega | exact fun z => z (by assumption))]; (first | done | rfl | (rw [zb_t (by first | assumption | omega | exact fun z => z (by assumption))]; (first | done | rfl | (rw [zb_t (by first | assumption | omega | exact fun z => z (by assumption))]; done) | (rw [zb_f (by first | assumption | omega | exact fun z => z (by assumption))]; done)); done) | (rw [zb_f (by first | assumption | omega | exact fun z => z (by assumption))]; (first | done | rfl | (rw [zb_t (by first | assumption | omega | exact fun z => z (by assumption))]; done) | (rw [zb_f (by first | assumption | omega | exact fun z => z (by assumption))]; done)); done)); done) | (rw [if_neg (by first | assumption | omega | exact fun z => z (by assumption))]; (first | done | rfl | (rw [zb_t (by first | assumption | omega | exact fun z => z (by assumption))]; (first | done | rfl | (rw [zb_t (by first | assumption | omega | exact fun z => z (by assumption))]; done) | (rw [zb_f (by first | assumption | omega | exact fun z => z (by assumption))]; done)); done) | (rw [zb_f (by first | assumption | omega | exact fun z => z (by assumption))]; (first | done | rfl | (rw [zb_t (by first | assumption | omega | exact fun z => z (by assumption))]; done) | (rw [zb_f (by first | assumption | omega | exact fun z => z (by assumption))]; done)); done)); done) | (rw [if_neg (by first | assumption | omega | exact fun z => z (by assumption)), if_neg (by first | assumption | omega | exact fun z => z (by assumption))]; (first | done | rfl | (rw [zb_t (by first | assumption | omega | exact fun z => z (by assumption))]; (first | done | rfl | (rw [zb_t (by first | assumption | omega | exact fun z => z (by assumption))]; done) | (rw [zb_f (by first | assumption | omega | exact fun z => z (by assumption))]; done)); done) | (rw [zb_f (by first | assumption | omega | exact fun z => z (by assumption))]; (first | done | rfl | (rw [zb_t (by first | assumption | omega | exact fun z => z (by assumption))]; done) | (rw [zb_f (by first | assumption | omega | exact fun z => z (by assumption))]; done)); done)); done)); rw [e]; exact ⟨rfl, rfl, rfl⟩) dX12_errorPosition_27
theorem kv_X12_failedCommand : zKV yX12_failedCommand cX12_failedCommand 1 (some .int) "DrumWarrenModel" 0 := ⟨zk_2062, zk_2060, zk_2061, zk_80, by decide, by decide, by decide +kernel⟩
set_option maxHeartbeats 4000000 in
set_option maxRecDepth 100000 in
theorem ct_X12_failedCommand (l : Launch) (g : zG) (ad : Int → Nat) (zM0 zF0 : zMem) : zMt l yX12_failedCommand cX12_failedCommand 1 (some .int) 2 0 0 g 410 ad [.ref (ad 398)] zM0 zF0 (zPi (fun r M' F' => (zqE (zM0 398 16)).2 = r ∧ (zu zM0 398 8 (zqE (zM0 398 16)).1) = M' ∧ zF0 = F')) := by
  refine zMt.of "DrumWarrenModel" rfl (by decide) (Nat.le_of_ble_eq_true rfl) (fun {p e s m args below meth c ls} C0 Wd hl hret hlk hin => ?_)
  have hl : lv_has ls 1 [(0, .ref (ad 398))] := hl
  refine z_aload_n C0 hl 0 rfl dX12_failedCommand_0 ?_
  refine z_aload_n C0 hl 0 rfl dX12_failedCommand_1 ?_
  refine zg_9_16 C0 Wd zN398 zK398 zk_1628 dX12_failedCommand_2 ?_
  have hz1 : zR (zM0 398 16) := Wd.rm _ _
  refine z_if_lt C0 (tgt := 12) hz1 dX12_failedCommand_5 (by decide) (fun c2 => ?_) (fun c2 => ?_)
  · skip
    refine z_iconst C0 dX12_failedCommand_12 ?_
    refine z_invVi (As := [.int (zI 0)]) (rest := []) C0 Wd (ct_X12_isThere l g ad zM0 zF0 False) kv_X12_isThere zN398 (zE_9 zK398) rfl zk_1754 rfl hl.1 rfl (Nat.le_of_ble_eq_true rfl) (by decide) (by decide) dX12_failedCommand_13 (fun r3 zMr3 zFr3 H locs hrr3 hp Wd => ?_)
    obtain ⟨rfl, rfl, rfl⟩ := hp
    replace Wd : zW g _ s.heap 410 ad (zu zM0 398 8 1) _ H locs := Wd
    refine z_top (show zI (zb (False)) = zI 0 from rfl) ?_
    replace hrr3 : zR 0 := hrr3
    refine z_if_eq C0 (tgt := 26) (zR_mk (by decide) (by decide)) dX12_failedCommand_16 (by decide) (fun _ => ?_) (fun h => absurd h (by decide))
    refine z_iconst C0 dX12_failedCommand_26 ?_
    exact z_iret C0 Wd hret hlk (zR_mk (by decide) (by decide)) (by have e : (zqE (zM0 398 16)) = ((1, 0) : zQu) := (by unfold zqE; first | (rw [if_pos (by first | assumption | omega | exact fun z => z (by assumption))]; (first | done | rfl | (rw [zb_t (by first | assumption | omega | exact fun z => z (by assumption))]; (first | done | rfl | (rw [zb_t (by first | assumption | omega | exact fun z => z (by assumption))]; done) | (rw [zb_f (by first | assumption | omega | exact fun z => z (by assumption))]; done)); done) | (rw [zb_f (by first | assumption | omega | exact fun z => z (by assumption))]; (first | done | rfl | (rw [zb_t (by first | assumption | omega | exact fun z => z (by assumption))]; done) | (rw [zb_f (by first | assumption | omega | exact fun z => z (by assumption))]; done)); done)); done) | (rw [if_neg (by first | assumption | omega | exact fun z => z (by assumption))]; (first | done | rfl | (rw [zb_t (by first | assumption | omega | exact fun z => z (by assumption))]; (first | done | rfl | (rw [zb_t (by first | assumption | omega | exact fun z => z (by assumption))]; done) | (rw [zb_f (by first | assumption | omega | exact fun z => z (by assumption))]; done)); done) | (rw [zb_f (by first | assumption | omega | exact fun z => z (by assumption))]; (first | done | rfl | (rw [zb_t (by first | assumption | omega | exact fun z => z (by assumption))]; done) | (rw [zb_f (by first | assumption | omega | exact fun z => z (by assumption))]; done)); done)); done) | (rw [if_neg (by first | assumption | omega | exact fun z => z (by assumption)), if_pos (by first | assumption | omega | exact fun z => z (by assumption))]; (first | done | rfl | (rw [zb_t (by first | assumption | omega | exact fun z => z (by assumption))]; (first | done | rfl | (rw [zb_t (by first | assumption | omega | exact fun z => z (by assumption))]; done) | (rw [zb_f (by first | assumption | omega | exact fun z => z (by assumption))]; done)); done) | (rw [zb_f (by first | assumption | omega | exact fun z => z (by assumption))]; (first | done | rfl | (rw [zb_t (by first | assumption | omega | exact fun z => z (by assumption))]; done) | (rw [zb_f (by first | assumption | omega | exact fun z => z (by assumption))]; done)); done)); done) | (rw [if_neg (by first | assumption | omega | exact fun z => z (by assumption))]; (first | done | rfl | (rw [zb_t (by first | assumption | omega | exact fun z => z (by assumption))]; (first | done | rfl | (rw [zb_t (by first | assumption | omega | exact fun z => z (by assumption))]; done) | (rw [zb_f (by first | assumption | omega | exact fun z => z (by assumption))]; done)); done) | (rw [zb_f (by first | assumption | omega | exact fun z => z (by assumption))]; (first | done | rfl | (rw [zb_t (by first | assumption | omega | exact fun z => z (by assumption))]; done) | (rw [zb_f (by first | assumption | omega | exact fun z => z (by assumption))]; done)); done)); done) | (rw [if_neg (by first | assumption | omega | exact fun z => z (by assumption)), if_neg (by first | assumption | omega | exact fun z => z (by assumption))]; (first | done | rfl | (rw [zb_t (by first | assumption | omega | exact fun z => z (by assumption))]; (first | done | rfl | (rw [zb_t (by first | assumption | omega | exact fun z => z (by assumption))]; done) | (rw [zb_f (by first | assumption | omega | exact fun z => z (by assumption))]; done)); done) | (rw [zb_f (by first | assumption | omega | exact fun z => z (by assumption))]; (first | done | rfl | (rw [zb_t (by first | assumption | omega | exact fun z => z (by assumption))]; done) | (rw [zb_f (by first | assumption | omega | exact fun z => z (by assumption))]; done)); done)); done)); rw [e]; exact ⟨rfl, rfl, rfl⟩) dX12_failedCommand_27
  · skip
    refine z_iconst C0 dX12_failedCommand_8 ?_
    refine z_goto C0 (tgt := 13) dX12_failedCommand_9 (by decide) ?_
    refine z_invVi (As := [.int (zI 1)]) (rest := []) C0 Wd (ct_X12_isThere l g ad zM0 zF0 True) kv_X12_isThere zN398 (zE_9 zK398) rfl zk_1754 rfl hl.1 rfl (Nat.le_of_ble_eq_true rfl) (by decide) (by decide) dX12_failedCommand_13 (fun r6 zMr6 zFr6 H locs hrr6 hp Wd => ?_)
    obtain ⟨rfl, rfl, rfl⟩ := hp
    replace Wd : zW g _ s.heap 410 ad (zu zM0 398 8 0) _ H locs := Wd
    refine z_top (show zI (zb (True)) = zI 1 from rfl) ?_
    replace hrr6 : zR 1 := hrr6
    refine z_if_eq C0 (tgt := 26) (zR_mk (by decide) (by decide)) dX12_failedCommand_16 (by decide) (fun h => absurd h (by decide)) (fun _ => ?_)
    refine z_aload_n C0 hl 0 rfl dX12_failedCommand_19 ?_
    refine zg_9_16 C0 Wd zN398 zK398 zk_1628 dX12_failedCommand_20 ?_
    obtain ⟨he11, hz9⟩ : ((zu zM0 398 8 0) 398 16) = (zM0 398 16) ∧ zR (zM0 398 16) := (fun q => ⟨q, q ▸ Wd.rm _ _⟩) (zu_ne (by omega))
    refine z_top (congrArg zI he11) ?_
    clear he11
    refine z_goto C0 (tgt := 27) dX12_failedCommand_23 (by decide) ?_
    exact z_iret C0 Wd hret hlk hz9 (by have e : (zqE (zM0 398 16)) = ((0, (zM0 398 16)) : zQu) := (by unfold zqE; first | (rw [if_pos (by first | assumption | omega | exact fun z => z (by assumption))]; (first | done | rfl | (rw [zb_t (by first | assumption | omega | exact fun z => z (by assumption))]; (first | done | rfl | (rw [zb_t (by first | assumption | omega | exact fun z => z (by assumption))]; done) | (rw [zb_f (by first | assumption | omega | exact fun z => z (by assumption))]; done)); done) | (rw [zb_f (by first | assumption | omega | exact fun z => z (by assumption))]; (first | done | rfl | (rw [zb_t (by first | assumption | omega | exact fun z => z (by assumption))]; done) | (rw [zb_f (by first | assumption | omega | exact fun z => z (by assumption))]; done)); done)); done) | (rw [if_neg (by first | assumption | omega | exact fun z => z (by assumption))]; (first | done | rfl | (rw [zb_t (by first | assumption | omega | exact fun z => z (by assumption))]; (first | done | rfl | (rw [zb_t (by first | assumption | omega | exact fun z => z (by assumption))]; done) | (rw [zb_f (by first | assumption | omega | exact fun z => z (by assumption))]; done)); done) | (rw [zb_f (by first | assumption | omega | exact fun z => z (by assumption))]; (first | done | rfl | (rw [zb_t (by first | assumption | omega | exact fun z => z (by assumption))]; done) | (rw [zb_f (by first | assumption | omega | exact fun z => z (by assumption))]; done)); done)); done) | (rw [if_neg (by first | assumption | omega | exact fun z => z (by assumption)), if_pos (by first | assumption | omega | exact fun z => z (by assumption))]; (first | done | rfl | (rw [zb_t (by first | assumption | omega | exact fun z => z (by assumption))]; (first | done | rfl | (rw [zb_t (by first | assumption | omega | exact fun z => z (by assumption))]; done) | (rw [zb_f (by first | assumption | omega | exact fun z => z (by assumption))]; done)); done) | (rw [zb_f (by first | assumption | omega | exact fun z => z (by assumption))]; (first | done | rfl | (rw [zb_t (by first | assumption | omega | exact fun z => z (by assumption))]; done) | (rw [zb_f (by first | assumption | omega | exact fun z => z (by assumption))]; done)); done)); done) | (rw [if_neg (by first | assumption | omega | exact fun z => z (by assumption))]; (first | done | rfl | (rw [zb_t (by first | assumption | omega | exact fun z => z (by assumption))]; (first | done | rfl | (rw [zb_t (by first | assumption | omega | exact fun z => z (by assumption))]; done) | (rw [zb_f (by first | assumption | omega | exact fun z => z (by assumption))]; done)); done) | (rw [zb_f (by first | assumption | omega | exact fun z => z (by assumption))]; (first | done | rfl | (rw [zb_t (by first | assumption | omega | exact fun z => z (by assumption))]; done) | (rw [zb_f (by first | assumption | omega | exact fun z => z (by assumption))]; done)); done)); done) | (rw [if_neg (by first | assumption | omega | exact fun z => z (by assumption)), if_neg (by first | assumption | omega | exact fun z => z (by assumption))]; (first | done | rfl | (rw [zb_t (by first | assumption | omega | exact fun z => z (by assumption))]; (first | done | rfl | (rw [zb_t (by first | assumption | omega | exact fun z => z (by assumption))]; done) | (rw [zb_f (by first | assumption | omega | exact fun z => z (by assumption))]; done)); done) | (rw [zb_f (by first | assumption | omega | exact fun z => z (by assumption))]; (first | done | rfl | (rw [zb_t (by first | assumption | omega | exact fun z => z (by assumption))]; done) | (rw [zb_f (by first | assumption | omega | exact fun z => z (by assumption))]; done)); done)); done)); rw [e]; exact ⟨rfl, rfl, rfl⟩) dX12_failedCommand_27
theorem kv_X12_state : zKV yX12_state cX12_state 3 (some .char) "DrumWarrenModel" 1 := ⟨zk_1892, zk_1890, zk_1891, zk_80, by decide, by decide, by decide +kernel⟩
set_option maxHeartbeats 4000000 in
set_option maxRecDepth 100000 in
theorem ct_X12_state (l : Launch) (g : zG) (ad : Int → Nat) (zM0 zF0 : zMem) (x0 : Int) (hx0 : zR x0) (h2 : 0 ≤ zM0 399 2 ∧ zM0 399 2 ≤ 8) (hS : ∀ p, 0 ≤ p → p < zM0 399 2 → 0 ≤ zM0 399 (96 + 47 * p + 4) ∧ zM0 399 (96 + 47 * p + 4) < 65536) : zMt l yX12_state cX12_state 3 (some .char) 4 0 0 g 410 ad [.ref (ad 398), .int (zI x0)] zM0 zF0 (zPi (fun r M' F' => ((0 < (zqT x0 4 (zM0 399)).1) ∧ 32 = r ∧ (zu zM0 398 8 (zqT x0 4 (zM0 399)).1) = M' ∧ zF0 = F') ∨ (((zqT x0 4 (zM0 399)).1 ≤ 0) ∧ (zqT x0 4 (zM0 399)).2 = r ∧ (zu zM0 398 8 (zqT x0 4 (zM0 399)).1) = M' ∧ zF0 = F'))) := by
  refine zMt.of "DrumWarrenModel" rfl (by decide) (Nat.le_of_ble_eq_true rfl) (fun {p e s m args below meth c ls} C0 Wd hl hret hlk hin => ?_)
  have hl : lv_has ls 3 [(0, .ref (ad 398)), (1, .int (zI x0))] := hl
  have hst := zqT_st (id := x0) hS h2.1
  refine z_aload_n C0 hl 0 rfl dX12_state_0 ?_
  refine z_iload_n C0 hl 1 rfl dX12_state_1 ?_
  refine z_iconst C0 dX12_state_2 ?_
  refine z_invVi (As := [.int (zI x0), .int (zI 4)]) (rest := []) C0 Wd (ct_X12_tells l g ad zM0 zF0 x0 hx0 4 (zR_mk (by decide) (by decide)) (by omega) (by omega)) kv_X12_tells zN398 (zE_9 zK398) rfl zk_1881 rfl hl.1 rfl (Nat.le_of_ble_eq_true rfl) (by decide) (by decide) dX12_state_3 (fun r1 zMr1 zFr1 H locs hrr1 hp Wd => ?_)
  obtain ⟨rfl, rfl, rfl⟩ := hp
  refine z_istore_n C0 hl [(2, .int (zI ((zqT x0 4 (zM0 399)).2))), (0, .ref (ad 398)), (1, .int (zI x0))] (by decide) rfl dX12_state_6 (fun ls hl => ?_)
  refine z_aload_n C0 hl 1 rfl dX12_state_7 ?_
  refine zg_9_8 C0 Wd zN398 zK398 zk_1620 dX12_state_8 ?_
  obtain ⟨he5, hz3⟩ : ((zu zM0 398 8 (zqT x0 4 (zM0 399)).1) 398 8) = ((zqT x0 4 (zM0 399)).1) ∧ zR ((zqT x0 4 (zM0 399)).1) := (fun q => ⟨q, q ▸ Wd.rm _ _⟩) (zu_same _ _ _ _)
  refine z_top (congrArg zI he5) ?_
  clear he5
  refine z_if_le C0 (tgt := 19) hz3 dX12_state_11 (by decide) (fun c6 => ?_) (fun c6 => ?_)
  · skip
    refine z_iload_n C0 hl 0 rfl dX12_state_19 ?_
    refine z_i2c C0 (v := (zqT x0 4 (zM0 399)).2) (zI_char hst.1 hst.2) dX12_state_20 ?_
    exact z_cret C0 Wd hret hlk (by omega) (by omega) (by first | exact (Or.inl ⟨(by first | assumption | omega), (by first | rfl | omega), (by first | rfl | (simp [zb, *]; done)), rfl⟩) | exact (Or.inr ⟨(by first | assumption | omega), (by first | rfl | omega), (by first | rfl | (simp [zb, *]; done)), rfl⟩)) dX12_state_21
  · skip
    refine z_bipush C0 dX12_state_14 (by decide) ?_
    refine z_goto C0 (tgt := 21) dX12_state_16 (by decide) ?_
    exact z_cret C0 Wd hret hlk (by omega) (by omega) (by first | exact (Or.inl ⟨(by first | assumption | omega), (by first | rfl | omega), (by first | rfl | (simp [zb, *]; done)), rfl⟩) | exact (Or.inr ⟨(by first | assumption | omega), (by first | rfl | omega), (by first | rfl | (simp [zb, *]; done)), rfl⟩)) dX12_state_21
theorem kv_X12_outputCharacter : zKV yX12_outputCharacter cX12_outputCharacter 2 (some .char) "DrumWarrenModel" 1 := ⟨zk_2003, zk_2001, zk_2002, zk_80, by decide, by decide, by decide +kernel⟩
set_option maxHeartbeats 4000000 in
set_option maxRecDepth 100000 in
theorem ct_X12_outputCharacter (l : Launch) (g : zG) (ad : Int → Nat) (zM0 zF0 : zMem) (x0 : Int) (hx0 : zR x0) (h10 : 0 ≤ zM0 398 10 ∧ zM0 398 10 ≤ 30) (ho : ∀ i, 0 ≤ i → i < 30 → 0 ≤ zM0 405 i ∧ zM0 405 i < 65536) : zMt l yX12_outputCharacter cX12_outputCharacter 2 (some .char) 1 0 0 g 410 ad [.ref (ad 398), .int (zI x0)] zM0 zF0 (zPi (fun r M' F' => ((0 ≤ x0 ∧ x0 < zM0 398 10) ∧ (zM0 405 x0) = r ∧ (zu zM0 398 8 0) = M' ∧ zF0 = F') ∨ ((¬ (0 ≤ x0 ∧ x0 < zM0 398 10)) ∧ 32 = r ∧ (zu zM0 398 8 1) = M' ∧ zF0 = F'))) := by
  refine zMt.of "DrumWarrenModel" rfl (by decide) (Nat.le_of_ble_eq_true rfl) (fun {p e s m args below meth c ls} C0 Wd hl hret hlk hin => ?_)
  have hl : lv_has ls 2 [(0, .ref (ad 398)), (1, .int (zI x0))] := hl
  refine z_aload_n C0 hl 0 rfl dX12_outputCharacter_0 ?_
  refine z_iload_n C0 hl 1 rfl dX12_outputCharacter_1 ?_
  refine z_iconst C0 dX12_outputCharacter_2 ?_
  refine z_aload_n C0 hl 0 rfl dX12_outputCharacter_3 ?_
  refine zg_9_10 C0 Wd zN398 zK398 zk_1622 dX12_outputCharacter_4 ?_
  have hz1 : zR (zM0 398 10) := Wd.rm _ _
  refine z_iconst C0 dX12_outputCharacter_7 ?_
  refine z_isub C0 dX12_outputCharacter_8 ?_
  refine z_invSi (As := [.int (zI x0), .int (zI 0), .int (zI ((zM0 398 10) - 1))]) (rest := [.ref (ad 398)]) C0 Wd (ct_X12_in l g ad zM0 zF0 x0 hx0 0 (zR_mk (by decide) (by decide)) ((zM0 398 10) - 1) (by have q0 := hz1.1; have p0 := hz1.2; exact zR_mk (by omega) (by omega))) kv_X12_in zk_1707 rfl hl.1 rfl (Nat.le_of_ble_eq_true rfl) (by decide) (by decide) dX12_outputCharacter_9 (fun r2 zMr2 zFr2 H locs hrr2 hp Wd => ?_)
  obtain ⟨rfl, rfl, rfl⟩ := hp
  refine z_invVi (As := [.int (zI (zb (0 ≤ x0 ∧ x0 ≤ ((zM0 398 10) - 1))))]) (rest := []) C0 Wd (ct_X12_isThere l g ad zM0 zF0 (0 ≤ x0 ∧ x0 ≤ ((zM0 398 10) - 1))) kv_X12_isThere zN398 (zE_9 zK398) rfl zk_1754 rfl hl.1 rfl (Nat.le_of_ble_eq_true rfl) (by decide) (by decide) dX12_outputCharacter_12 (fun r4 zMr4 zFr4 H locs hrr4 hp Wd => ?_)
  obtain ⟨rfl, rfl, rfl⟩ := hp
  refine z_if_eq_b C0 (tgt := 27) dX12_outputCharacter_15 (by decide) (fun c6 => ?_) (fun c6 => ?_)
  · skip
    refine z_bipush C0 dX12_outputCharacter_27 (by decide) ?_
    exact z_cret C0 Wd hret hlk (by omega) (by omega) (Or.inr ⟨by omega, rfl, by rw [zb_t (by omega)], rfl⟩) dX12_outputCharacter_29
  · skip
    have hoo := ho x0 (by omega) (by omega)
    refine z_aload_n C0 hl 0 rfl dX12_outputCharacter_18 ?_
    refine zg_9_9 C0 Wd zN398 zK398 zk_1621 dX12_outputCharacter_19 ?_
    refine z_iload_n C0 hl 1 rfl dX12_outputCharacter_22 ?_
    refine z_cald C0 Wd zN405 zK405 zL405 (by omega) (by omega) (by decide) dX12_outputCharacter_23 ?_
    obtain ⟨he9, hz7⟩ : ((zu zM0 398 8 (zb (¬ (0 ≤ x0 ∧ x0 ≤ ((zM0 398 10) - 1))))) 405 x0) = (zM0 405 x0) ∧ zR (zM0 405 x0) := (fun q => ⟨q, q ▸ Wd.rm _ _⟩) (zu_ne (by omega))
    refine z_top (congrArg zI he9) ?_
    clear he9
    refine z_goto C0 (tgt := 29) dX12_outputCharacter_24 (by decide) ?_
    exact z_cret C0 Wd hret hlk (by omega) (by omega) (Or.inl ⟨by omega, rfl, by rw [zb_f (by omega)], rfl⟩) dX12_outputCharacter_29
theorem kv_X12_save : zKV yX12_save cX12_save 1 (some .int) "DrumWarrenModel" 0 := ⟨zk_2074, zk_2072, zk_2073, zk_80, by decide, by decide, by decide +kernel⟩
set_option maxHeartbeats 4000000 in
set_option maxRecDepth 100000 in
theorem ct_X12_save (l : Launch) (g : zG) (ad : Int → Nat) (zM0 zF0 : zMem) : zMt l yX12_save cX12_save 1 (some .int) 1 0 0 g 410 ad [.ref (ad 398)] zM0 zF0 (zPi (fun r M' F' => (zM0 399 1) = r ∧ (zu (zrow (zu zM0 398 8 0) 402 (zM0 399)) 398 4 1) = M' ∧ zF0 = F')) := by
  refine zMt.of "DrumWarrenModel" rfl (by decide) (Nat.le_of_ble_eq_true rfl) (fun {p e s m args below meth c ls} C0 Wd hl hret hlk hin => ?_)
  have hl : lv_has ls 1 [(0, .ref (ad 398))] := hl
  refine z_aload_n C0 hl 0 rfl dX12_save_0 ?_
  refine z_iconst C0 dX12_save_1 ?_
  refine zp_9_8 C0 Wd zN398 zK398 (zR_mk (by decide) (by decide)) zk_1620 dX12_save_2 (fun H locs Wd => ?_)
  refine z_aload_n C0 hl 0 rfl dX12_save_5 ?_
  refine zg_9_0 C0 Wd zN398 zK398 zk_1612 dX12_save_6 ?_
  refine z_iconst C0 dX12_save_9 ?_
  refine z_aload_n C0 hl 0 rfl dX12_save_10 ?_
  refine zg_9_3 C0 Wd zN398 zK398 zk_1615 dX12_save_11 ?_
  refine z_iconst C0 dX12_save_14 ?_
  refine z_sipush C0 dX12_save_15 (by decide) ?_
  refine z_copyi C0 Wd hl.1 zN399 zN402 zK399 zK402 zL399 zL402 (by decide) (by decide) (by omega) (by omega) (by omega) (by omega) (by omega) (by decide) zk_1682 dX12_save_18 (fun H locs Wd => ?_)
  replace Wd := zW.full Wd zK402 (by rw [zL402]; rfl) (zM0 399) (fun j _ _ => by rw [Int.zero_add]; rfl) (fun j => Wd.rm 399 j)
  refine z_aload_n C0 hl 0 rfl dX12_save_21 ?_
  refine z_iconst C0 dX12_save_22 ?_
  refine zp_9_4 C0 Wd zN398 zK398 (by omega) zk_1616 dX12_save_23 (fun H locs Wd => ?_)
  refine z_aload_n C0 hl 0 rfl dX12_save_26 ?_
  refine zg_9_0 C0 Wd zN398 zK398 zk_1612 dX12_save_27 ?_
  refine z_iconst C0 dX12_save_30 ?_
  refine z_iald C0 Wd zN399 zK399 zL399 (by decide) (by decide) (by decide) dX12_save_31 ?_
  obtain ⟨he3, hz1⟩ : ((zu (zrow (zu zM0 398 8 0) 402 (zM0 399)) 398 4 1) 399 1) = (zM0 399 1) ∧ zR (zM0 399 1) := (fun q => ⟨q, q ▸ Wd.rm _ _⟩) ((zu_ne (by omega)).trans ((congrFun (zrow_ne (by decide)) _).trans (zu_ne (by omega))))
  refine z_top (congrArg zI he3) ?_
  clear he3
  exact z_iret C0 Wd hret hlk hz1 ⟨by first | rfl | (simp only [zb]; first | rfl | (split <;> omega) | omega) | (simp [zb, *]; done) | omega, by first | rfl | (simp [zb, *]; done), rfl⟩ dX12_save_32
theorem kv_X12_restore : zKV yX12_restore cX12_restore 1 (some .int) "DrumWarrenModel" 0 := ⟨zk_2078, zk_2076, zk_2077, zk_80, by decide, by decide, by decide +kernel⟩
set_option maxHeartbeats 4000000 in
set_option maxRecDepth 100000 in
theorem ct_X12_restore (l : Launch) (g : zG) (ad : Int → Nat) (zM0 zF0 : zMem) (h4 : zM0 398 4 = 0 ∨ zM0 398 4 = 1) : zMt l yX12_restore cX12_restore 1 (some .int) 1 0 0 g 410 ad [.ref (ad 398)] zM0 zF0 (zPi (fun r M' F' => ((zM0 398 4 = 0) ∧ 0 = r ∧ (zu zM0 398 8 1) = M' ∧ zF0 = F') ∨ ((¬ zM0 398 4 = 0) ∧ (zM0 402 1) = r ∧ (zu (zrow (zu zM0 398 8 0) 399 (zM0 402)) 398 6 0) = M' ∧ zF0 = F'))) := by
  refine zMt.of "DrumWarrenModel" rfl (by decide) (Nat.le_of_ble_eq_true rfl) (fun {p e s m args below meth c ls} C0 Wd hl hret hlk hin => ?_)
  have hl : lv_has ls 1 [(0, .ref (ad 398))] := hl
  refine z_aload_n C0 hl 0 rfl dX12_restore_0 ?_
  refine z_aload_n C0 hl 0 rfl dX12_restore_1 ?_
  refine zg_9_4 C0 Wd zN398 zK398 zk_1616 dX12_restore_2 ?_
  have hz1 : zR (zM0 398 4) := Wd.rm _ _
  refine z_if_eq C0 (tgt := 12) hz1 dX12_restore_5 (by decide) (fun c2 => ?_) (fun c2 => ?_)
  · skip
    refine z_iconst C0 dX12_restore_12 ?_
    refine zp_9_8 C0 Wd zN398 zK398 (zR_mk (by decide) (by decide)) zk_1620 dX12_restore_13 (fun H locs Wd => ?_)
    refine z_aload_n C0 hl 0 rfl dX12_restore_16 ?_
    refine zg_9_8 C0 Wd zN398 zK398 zk_1620 dX12_restore_17 ?_
    obtain ⟨he5, hz3⟩ : ((zu zM0 398 8 1) 398 8) = 1 ∧ zR 1 := (fun q => ⟨q, q ▸ Wd.rm _ _⟩) (zu_same _ _ _ _)
    refine z_top (congrArg zI he5) ?_
    clear he5
    refine z_if_le C0 (tgt := 25) (zR_mk (by decide) (by decide)) dX12_restore_20 (by decide) (fun h => absurd h (by decide)) (fun _ => ?_)
    refine z_iconst C0 dX12_restore_23 ?_
    exact z_iret C0 Wd hret hlk (zR_mk (by decide) (by decide)) (by first | exact (Or.inl ⟨(by first | assumption | omega), (by first | rfl | omega), (by first | rfl | (simp [zb, *]; done)), rfl⟩) | exact (Or.inr ⟨(by first | assumption | omega), (by first | rfl | omega), (by first | rfl | (simp [zb, *]; done)), rfl⟩)) dX12_restore_24
  · skip
    refine z_iconst C0 dX12_restore_8 ?_
    refine z_goto C0 (tgt := 13) dX12_restore_9 (by decide) ?_
    refine zp_9_8 C0 Wd zN398 zK398 (zR_mk (by decide) (by decide)) zk_1620 dX12_restore_13 (fun H locs Wd => ?_)
    refine z_aload_n C0 hl 0 rfl dX12_restore_16 ?_
    refine zg_9_8 C0 Wd zN398 zK398 zk_1620 dX12_restore_17 ?_
    obtain ⟨he9, hz7⟩ : ((zu zM0 398 8 0) 398 8) = 0 ∧ zR 0 := (fun q => ⟨q, q ▸ Wd.rm _ _⟩) (zu_same _ _ _ _)
    refine z_top (congrArg zI he9) ?_
    clear he9
    refine z_if_le C0 (tgt := 25) (zR_mk (by decide) (by decide)) dX12_restore_20 (by decide) (fun _ => ?_) (fun h => absurd h (by decide))
    refine z_aload_n C0 hl 0 rfl dX12_restore_25 ?_
    refine zg_9_3 C0 Wd zN398 zK398 zk_1615 dX12_restore_26 ?_
    refine z_iconst C0 dX12_restore_29 ?_
    refine z_aload_n C0 hl 0 rfl dX12_restore_30 ?_
    refine zg_9_0 C0 Wd zN398 zK398 zk_1612 dX12_restore_31 ?_
    refine z_iconst C0 dX12_restore_34 ?_
    refine z_sipush C0 dX12_restore_35 (by decide) ?_
    refine z_copyi C0 Wd hl.1 zN402 zN399 zK402 zK399 zL402 zL399 (by decide) (by decide) (by omega) (by omega) (by omega) (by omega) (by omega) (by decide) zk_1682 dX12_restore_38 (fun H locs Wd => ?_)
    replace Wd := zW.full Wd zK399 (by rw [zL399]; rfl) (zM0 402) (fun j _ _ => by rw [Int.zero_add]; rfl) (fun j => Wd.rm 402 j)
    refine z_aload_n C0 hl 0 rfl dX12_restore_41 ?_
    refine z_iconst C0 dX12_restore_42 ?_
    refine zp_9_6 C0 Wd zN398 zK398 (zR_mk (by decide) (by decide)) zk_1618 dX12_restore_43 (fun H locs Wd => ?_)
    refine z_aload_n C0 hl 0 rfl dX12_restore_46 ?_
    refine zg_9_0 C0 Wd zN398 zK398 zk_1612 dX12_restore_47 ?_
    refine z_iconst C0 dX12_restore_50 ?_
    refine z_iald C0 Wd zN399 zK399 zL399 (by decide) (by decide) (by decide) dX12_restore_51 ?_
    obtain ⟨he13, hz11⟩ : ((zu (zrow (zu zM0 398 8 0) 399 (zM0 402)) 398 6 0) 399 1) = ((zM0 402) 1) ∧ zR ((zM0 402) 1) := (fun q => ⟨q, q ▸ Wd.rm _ _⟩) ((zu_ne (by omega)).trans (congrFun (zrow_same _ _ _) _))
    refine z_top (congrArg zI he13) ?_
    clear he13
    exact z_iret C0 Wd hret hlk hz11 (by first | exact (Or.inl ⟨(by first | assumption | omega), (by first | rfl | omega), (by first | rfl | (simp [zb, *]; done)), rfl⟩) | exact (Or.inr ⟨(by first | assumption | omega), (by first | rfl | omega), (by first | rfl | (simp [zb, *]; done)), rfl⟩)) dX12_restore_52
theorem kv_X12_undo : zKV yX12_undo cX12_undo 1 (some .int) "DrumWarrenModel" 0 := ⟨zk_2066, zk_2064, zk_2065, zk_80, by decide, by decide, by decide +kernel⟩
set_option maxHeartbeats 4000000 in
set_option maxRecDepth 100000 in
theorem ct_X12_undo (l : Launch) (g : zG) (ad : Int → Nat) (zM0 zF0 : zMem) (zv : Int → Int) (hzR : ∀ j, zR (zv j)) (h6 : 0 ≤ zM0 398 6 ∧ zM0 398 6 ≤ 8) (hzv : 0 < zM0 398 6 → ∀ j, 0 ≤ j → j < 1496 → zv j = zM0 403 (1496 * (zM0 398 6 - 1) + j)) : zMt l yX12_undo cX12_undo 1 (some .int) 1 0 0 g 410 ad [.ref (ad 398)] zM0 zF0 (zPi (fun r M' F' => ((zM0 398 6 = 0) ∧ 0 = r ∧ (zu zM0 398 8 1) = M' ∧ zF0 = F') ∨ ((¬ zM0 398 6 = 0) ∧ (zM0 398 6 - 1) = r ∧ (zrow (zu (zu zM0 398 8 0) 398 6 (zM0 398 6 - 1)) 399 zv) = M' ∧ zF0 = F'))) := by
  refine zMt.of "DrumWarrenModel" rfl (by decide) (Nat.le_of_ble_eq_true rfl) (fun {p e s m args below meth c ls} C0 Wd hl hret hlk hin => ?_)
  have hl : lv_has ls 1 [(0, .ref (ad 398))] := hl
  refine z_aload_n C0 hl 0 rfl dX12_undo_0 ?_
  refine z_aload_n C0 hl 0 rfl dX12_undo_1 ?_
  refine zg_9_6 C0 Wd zN398 zK398 zk_1618 dX12_undo_2 ?_
  have hz1 : zR (zM0 398 6) := Wd.rm _ _
  refine z_if_ne C0 (tgt := 12) hz1 dX12_undo_5 (by decide) (fun c2 => ?_) (fun c2 => ?_)
  · skip
    refine z_iconst C0 dX12_undo_12 ?_
    refine zp_9_8 C0 Wd zN398 zK398 (zR_mk (by decide) (by decide)) zk_1620 dX12_undo_13 (fun H locs Wd => ?_)
    refine z_aload_n C0 hl 0 rfl dX12_undo_16 ?_
    refine zg_9_8 C0 Wd zN398 zK398 zk_1620 dX12_undo_17 ?_
    obtain ⟨he5, hz3⟩ : ((zu zM0 398 8 0) 398 8) = 0 ∧ zR 0 := (fun q => ⟨q, q ▸ Wd.rm _ _⟩) (zu_same _ _ _ _)
    refine z_top (congrArg zI he5) ?_
    clear he5
    refine z_if_le C0 (tgt := 25) (zR_mk (by decide) (by decide)) dX12_undo_20 (by decide) (fun _ => ?_) (fun h => absurd h (by decide))
    refine z_aload_n C0 hl 0 rfl dX12_undo_25 ?_
    refine z_dup C0 rfl dX12_undo_26 ?_
    refine zg_9_6 C0 Wd zN398 zK398 zk_1618 dX12_undo_27 ?_
    obtain ⟨he9, hz7⟩ : ((zu zM0 398 8 0) 398 6) = (zM0 398 6) ∧ zR (zM0 398 6) := (fun q => ⟨q, q ▸ Wd.rm _ _⟩) (zu_ne (by omega))
    refine z_top (congrArg zI he9) ?_
    clear he9
    refine z_iconst C0 dX12_undo_30 ?_
    refine z_isub C0 dX12_undo_31 ?_
    refine zp_9_6 C0 Wd zN398 zK398 (by have q0 := hz7.1; have p0 := hz7.2; exact zR_mk (by omega) (by omega)) zk_1618 dX12_undo_32 (fun H locs Wd => ?_)
    refine z_aload_n C0 hl 0 rfl dX12_undo_35 ?_
    refine zg_9_5 C0 Wd zN398 zK398 zk_1617 dX12_undo_36 ?_
    refine z_sipush C0 dX12_undo_39 (by decide) ?_
    refine z_aload_n C0 hl 0 rfl dX12_undo_42 ?_
    refine zg_9_6 C0 Wd zN398 zK398 zk_1618 dX12_undo_43 ?_
    obtain ⟨he12, hz10⟩ : ((zu (zu zM0 398 8 0) 398 6 ((zM0 398 6) - 1)) 398 6) = ((zM0 398 6) - 1) ∧ zR ((zM0 398 6) - 1) := (fun q => ⟨q, q ▸ Wd.rm _ _⟩) (zu_same _ _ _ _)
    refine z_top (congrArg zI he12) ?_
    clear he12
    refine z_imul C0 dX12_undo_46 ?_
    refine z_aload_n C0 hl 0 rfl dX12_undo_47 ?_
    refine zg_9_0 C0 Wd zN398 zK398 zk_1612 dX12_undo_48 ?_
    refine z_iconst C0 dX12_undo_51 ?_
    refine z_sipush C0 dX12_undo_52 (by decide) ?_
    refine z_copyi C0 Wd hl.1 zN403 zN399 zK403 zK399 zL403 zL399 (by decide) (by decide) (by omega) (by omega) (by omega) (by omega) (by omega) (by decide) zk_1682 dX12_undo_55 (fun H locs Wd => ?_)
    replace Wd := zW.full Wd zK399 (by rw [zL399]; rfl) zv (fun j h0 h1 => hzv (by omega) j h0 h1) hzR
    refine z_aload_n C0 hl 0 rfl dX12_undo_58 ?_
    refine zg_9_6 C0 Wd zN398 zK398 zk_1618 dX12_undo_59 ?_
    obtain ⟨he15, hz13⟩ : ((zrow (zu (zu zM0 398 8 0) 398 6 ((zM0 398 6) - 1)) 399 zv) 398 6) = ((zM0 398 6) - 1) ∧ zR ((zM0 398 6) - 1) := (fun q => ⟨q, q ▸ Wd.rm _ _⟩) ((congrFun (zrow_ne (by decide)) _).trans (zu_same _ _ _ _))
    refine z_top (congrArg zI he15) ?_
    clear he15
    exact z_iret C0 Wd hret hlk hz13 (by first | exact (Or.inl ⟨(by first | assumption | omega), (by first | rfl | omega), (by first | rfl | (simp [zb, *]; done)), rfl⟩) | exact (Or.inr ⟨(by first | assumption | omega), (by first | rfl | omega), (by first | rfl | (simp [zb, *]; done)), rfl⟩)) dX12_undo_62
  · skip
    refine z_iconst C0 dX12_undo_8 ?_
    refine z_goto C0 (tgt := 13) dX12_undo_9 (by decide) ?_
    refine zp_9_8 C0 Wd zN398 zK398 (zR_mk (by decide) (by decide)) zk_1620 dX12_undo_13 (fun H locs Wd => ?_)
    refine z_aload_n C0 hl 0 rfl dX12_undo_16 ?_
    refine zg_9_8 C0 Wd zN398 zK398 zk_1620 dX12_undo_17 ?_
    obtain ⟨he18, hz16⟩ : ((zu zM0 398 8 1) 398 8) = 1 ∧ zR 1 := (fun q => ⟨q, q ▸ Wd.rm _ _⟩) (zu_same _ _ _ _)
    refine z_top (congrArg zI he18) ?_
    clear he18
    refine z_if_le C0 (tgt := 25) (zR_mk (by decide) (by decide)) dX12_undo_20 (by decide) (fun h => absurd h (by decide)) (fun _ => ?_)
    refine z_iconst C0 dX12_undo_23 ?_
    exact z_iret C0 Wd hret hlk (zR_mk (by decide) (by decide)) (by first | exact (Or.inl ⟨(by first | assumption | omega), (by first | rfl | omega), (by first | rfl | (simp [zb, *]; done)), rfl⟩) | exact (Or.inr ⟨(by first | assumption | omega), (by first | rfl | omega), (by first | rfl | (simp [zb, *]; done)), rfl⟩)) dX12_undo_24
