/-! the model: its small methods -/
theorem kv_X12_thrown : zKV yX12_thrown cX12_thrown 1 (some .int) "DrumWarrenModel" 0 := ⟨zk_1673, zk_1671, zk_1672, zk_80, by decide, by decide, by decide +kernel⟩
set_option maxHeartbeats 4000000 in
set_option maxRecDepth 100000 in
theorem ct_X12_thrown (l : Launch) (g : zG) (ad : Int → Nat) (zM0 zF0 : zMem) : zMt l yX12_thrown cX12_thrown 1 (some .int) 0 0 0 g 410 ad [.ref (ad 398)] zM0 zF0 (zPi (fun r M' F' => (zM0 398 8) = r ∧ zM0 = M' ∧ zF0 = F')) := by
  refine zMt.of "DrumWarrenModel" rfl (by decide) (Nat.le_of_ble_eq_true rfl) (fun {p e s m args below meth c ls} C0 Wd hl hret hlk hin => ?_)
  have hl : lv_has ls 1 [(0, .ref (ad 398))] := hl
  refine z_aload_n C0 hl 0 rfl dX12_thrown_0 ?_
  refine zg_9_8 C0 Wd zN398 zK398 zk_1620 dX12_thrown_1 ?_
  have hz1 : zR (zM0 398 8) := Wd.rm _ _
  exact z_iret C0 Wd hret hlk hz1 ⟨by first | rfl | (simp only [zb]; first | rfl | (split <;> omega) | omega) | (simp [zb, *]; done) | omega, by first | rfl | (simp [zb, *]; done), rfl⟩ dX12_thrown_4
theorem kv_X12_in : zKS yX12_in cX12_in 3 (some .boolean) 3 := ⟨zk_1709, zk_1708, zk_80, by decide, by decide, by decide +kernel⟩
set_option maxHeartbeats 4000000 in
set_option maxRecDepth 100000 in
theorem ct_X12_in (l : Launch) (g : zG) (ad : Int → Nat) (zM0 zF0 : zMem) (x0 : Int) (hx0 : zR x0) (x1 : Int) (hx1 : zR x1) (x2 : Int) (hx2 : zR x2) : zMt l yX12_in cX12_in 3 (some .boolean) 0 0 0 g 410 ad [.int (zI x0), .int (zI x1), .int (zI x2)] zM0 zF0 (zPi (fun r M' F' => zb (x1 ≤ x0 ∧ x0 ≤ x2) = r ∧ zM0 = M' ∧ zF0 = F')) := by
  refine zMt.of "DrumWarrenModel" rfl (by decide) (Nat.le_of_ble_eq_true rfl) (fun {p e s m args below meth c ls} C0 Wd hl hret hlk hin => ?_)
  have hl : lv_has ls 3 [(0, .int (zI x0)), (1, .int (zI x1)), (2, .int (zI x2))] := hl
  refine z_iload_n C0 hl 0 rfl dX12_in_0 ?_
  refine z_iload_n C0 hl 1 rfl dX12_in_1 ?_
  refine z_icmp_lt C0 (tgt := 14) hx0 hx1 dX12_in_2 (by decide) (fun c1 => ?_) (fun c1 => ?_)
  · skip
    refine z_iconst C0 dX12_in_14 ?_
    exact z_zret C0 Wd hret hlk (by decide) ⟨by unfold zb; first | (rw [if_pos (by omega)]; done) | (rw [if_neg (by omega)]; done), rfl, rfl⟩ dX12_in_15
  · skip
    refine z_iload_n C0 hl 0 rfl dX12_in_5 ?_
    refine z_iload_n C0 hl 2 rfl dX12_in_6 ?_
    refine z_icmp_gt C0 (tgt := 14) hx0 hx2 dX12_in_7 (by decide) (fun c2 => ?_) (fun c2 => ?_)
    · skip
      refine z_iconst C0 dX12_in_14 ?_
      exact z_zret C0 Wd hret hlk (by decide) ⟨by unfold zb; first | (rw [if_pos (by omega)]; done) | (rw [if_neg (by omega)]; done), rfl, rfl⟩ dX12_in_15
    · skip
      refine z_iconst C0 dX12_in_10 ?_
      refine z_goto C0 (tgt := 15) dX12_in_11 (by decide) ?_
      exact z_zret C0 Wd hret hlk (by decide) ⟨by unfold zb; first | (rw [if_pos (by omega)]; done) | (rw [if_neg (by omega)]; done), rfl, rfl⟩ dX12_in_15
theorem kv_X12_fails : zKV yX12_fails cX12_fails 2 (some .int) "DrumWarrenModel" 1 := ⟨zk_1690, zk_1689, zk_26, zk_80, by decide, by decide, by decide +kernel⟩
set_option maxHeartbeats 4000000 in
set_option maxRecDepth 100000 in
theorem ct_X12_fails (l : Launch) (g : zG) (ad : Int → Nat) (zM0 zF0 : zMem) (x0 : Int) (hx0 : zR x0) : zMt l yX12_fails cX12_fails 2 (some .int) 0 0 0 g 410 ad [.ref (ad 398), .int (zI x0)] zM0 zF0 (zPi (fun r M' F' => 0 = r ∧ (zu zM0 398 8 x0) = M' ∧ zF0 = F')) := by
  refine zMt.of "DrumWarrenModel" rfl (by decide) (Nat.le_of_ble_eq_true rfl) (fun {p e s m args below meth c ls} C0 Wd hl hret hlk hin => ?_)
  have hl : lv_has ls 2 [(0, .ref (ad 398)), (1, .int (zI x0))] := hl
  refine z_aload_n C0 hl 0 rfl dX12_fails_0 ?_
  refine z_iload_n C0 hl 1 rfl dX12_fails_1 ?_
  refine zp_9_8 C0 Wd zN398 zK398 hx0 zk_1620 dX12_fails_2 (fun H locs Wd => ?_)
  refine z_iconst C0 dX12_fails_5 ?_
  exact z_iret C0 Wd hret hlk (zR_mk (by decide) (by decide)) ⟨by first | rfl | (simp only [zb]; first | rfl | (split <;> omega) | omega) | (simp [zb, *]; done) | omega, by first | rfl | (simp [zb, *]; done), rfl⟩ dX12_fails_6
theorem kv_X12_isThere : zKV yX12_isThere cX12_isThere 2 (some .boolean) "DrumWarrenModel" 1 := ⟨zk_1757, zk_1756, zk_33, zk_80, by decide, by decide, by decide +kernel⟩
set_option maxHeartbeats 4000000 in
set_option maxRecDepth 100000 in
theorem ct_X12_isThere (l : Launch) (g : zG) (ad : Int → Nat) (zM0 zF0 : zMem) (P : Prop) [Decidable P] : zMt l yX12_isThere cX12_isThere 2 (some .boolean) 0 0 0 g 410 ad [.ref (ad 398), .int (zI (zb P))] zM0 zF0 (zPi (fun r M' F' => zb (P) = r ∧ (zu zM0 398 8 (zb (¬ P))) = M' ∧ zF0 = F')) := by
  refine zMt.of "DrumWarrenModel" rfl (by decide) (Nat.le_of_ble_eq_true rfl) (fun {p e s m args below meth c ls} C0 Wd hl hret hlk hin => ?_)
  have hl : lv_has ls 2 [(0, .ref (ad 398)), (1, .int (zI (zb (P))))] := hl
  refine z_aload_n C0 hl 0 rfl dX12_isThere_0 ?_
  refine z_iload_n C0 hl 1 rfl dX12_isThere_1 ?_
  refine z_if_eq_b C0 (tgt := 9) dX12_isThere_2 (by decide) (fun c1 => ?_) (fun c1 => ?_)
  · skip
    refine z_iconst C0 dX12_isThere_9 ?_
    refine zp_9_8 C0 Wd zN398 zK398 (zR_mk (by decide) (by decide)) zk_1620 dX12_isThere_10 (fun H locs Wd => ?_)
    refine z_iload_n C0 hl 1 rfl dX12_isThere_13 ?_
    exact z_zret C0 Wd hret hlk (zb_01 _) ⟨by first | rfl | (simp only [zb]; first | rfl | (split <;> omega) | omega) | (simp [zb, *]; done) | omega, by first | rfl | (simp [zb, *]; done), rfl⟩ dX12_isThere_14
  · skip
    refine z_iconst C0 dX12_isThere_5 ?_
    refine z_goto C0 (tgt := 10) dX12_isThere_6 (by decide) ?_
    refine zp_9_8 C0 Wd zN398 zK398 (zR_mk (by decide) (by decide)) zk_1620 dX12_isThere_10 (fun H locs Wd => ?_)
    refine z_iload_n C0 hl 1 rfl dX12_isThere_13 ?_
    exact z_zret C0 Wd hret hlk (zb_01 _) ⟨by first | rfl | (simp only [zb]; first | rfl | (split <;> omega) | omega) | (simp [zb, *]; done) | omega, by first | rfl | (simp [zb, *]; done), rfl⟩ dX12_isThere_14
theorem kv_X12_isChamber : zKV yX12_isChamber cX12_isChamber 2 (some .boolean) "DrumWarrenModel" 1 := ⟨zk_1706, zk_1705, zk_29, zk_80, by decide, by decide, by decide +kernel⟩
set_option maxHeartbeats 4000000 in
set_option maxRecDepth 100000 in
theorem ct_X12_isChamber (l : Launch) (g : zG) (ad : Int → Nat) (zM0 zF0 : zMem) (x0 : Int) (hx0 : zR x0) (h0 : 0 ≤ zM0 399 0) : zMt l yX12_isChamber cX12_isChamber 2 (some .boolean) 1 0 0 g 410 ad [.ref (ad 398), .int (zI x0)] zM0 zF0 (zPi (fun r M' F' => zb (0 ≤ x0 ∧ x0 < (zM0 399 0)) = r ∧ zM0 = M' ∧ zF0 = F')) := by
  refine zMt.of "DrumWarrenModel" rfl (by decide) (Nat.le_of_ble_eq_true rfl) (fun {p e s m args below meth c ls} C0 Wd hl hret hlk hin => ?_)
  have hl : lv_has ls 2 [(0, .ref (ad 398)), (1, .int (zI x0))] := hl
  refine z_iload_n C0 hl 1 rfl dX12_isChamber_0 ?_
  refine z_iconst C0 dX12_isChamber_1 ?_
  refine z_aload_n C0 hl 0 rfl dX12_isChamber_2 ?_
  refine zg_9_0 C0 Wd zN398 zK398 zk_1612 dX12_isChamber_3 ?_
  refine z_iconst C0 dX12_isChamber_6 ?_
  refine z_iald C0 Wd zN399 zK399 zL399 (by decide) (by decide) (by decide) dX12_isChamber_7 ?_
  have hz1 : zR (zM0 399 0) := Wd.rm _ _
  refine z_iconst C0 dX12_isChamber_8 ?_
  refine z_isub C0 dX12_isChamber_9 ?_
  refine z_invSi (As := [.int (zI x0), .int (zI 0), .int (zI ((zM0 399 0) - 1))]) (rest := []) C0 Wd (ct_X12_in l g ad zM0 zF0 x0 hx0 0 (zR_mk (by decide) (by decide)) ((zM0 399 0) - 1) (by have q0 := hz1.1; have p0 := hz1.2; exact zR_mk (by omega) (by omega))) kv_X12_in zk_1707 rfl hl.1 rfl (Nat.le_of_ble_eq_true rfl) (by decide) (by decide) dX12_isChamber_10 (fun r2 zMr2 zFr2 H locs hrr2 hp Wd => ?_)
  obtain ⟨rfl, rfl, rfl⟩ := hp
  exact z_zret C0 Wd hret hlk (zb_01 _) ⟨by congr 1; apply propext; omega, rfl, rfl⟩ dX12_isChamber_13
theorem kv_X12_isHare : zKV yX12_isHare cX12_isHare 2 (some .boolean) "DrumWarrenModel" 1 := ⟨zk_1796, zk_1795, zk_37, zk_80, by decide, by decide, by decide +kernel⟩
set_option maxHeartbeats 4000000 in
set_option maxRecDepth 100000 in
theorem ct_X12_isHare (l : Launch) (g : zG) (ad : Int → Nat) (zM0 zF0 : zMem) (x0 : Int) (hx0 : zR x0) (h0 : 0 ≤ zM0 399 1) : zMt l yX12_isHare cX12_isHare 2 (some .boolean) 1 0 0 g 410 ad [.ref (ad 398), .int (zI x0)] zM0 zF0 (zPi (fun r M' F' => zb (0 ≤ x0 ∧ x0 < (zM0 399 1)) = r ∧ zM0 = M' ∧ zF0 = F')) := by
  refine zMt.of "DrumWarrenModel" rfl (by decide) (Nat.le_of_ble_eq_true rfl) (fun {p e s m args below meth c ls} C0 Wd hl hret hlk hin => ?_)
  have hl : lv_has ls 2 [(0, .ref (ad 398)), (1, .int (zI x0))] := hl
  refine z_iload_n C0 hl 1 rfl dX12_isHare_0 ?_
  refine z_iconst C0 dX12_isHare_1 ?_
  refine z_aload_n C0 hl 0 rfl dX12_isHare_2 ?_
  refine zg_9_0 C0 Wd zN398 zK398 zk_1612 dX12_isHare_3 ?_
  refine z_iconst C0 dX12_isHare_6 ?_
  refine z_iald C0 Wd zN399 zK399 zL399 (by decide) (by decide) (by decide) dX12_isHare_7 ?_
  have hz1 : zR (zM0 399 1) := Wd.rm _ _
  refine z_iconst C0 dX12_isHare_8 ?_
  refine z_isub C0 dX12_isHare_9 ?_
  refine z_invSi (As := [.int (zI x0), .int (zI 0), .int (zI ((zM0 399 1) - 1))]) (rest := []) C0 Wd (ct_X12_in l g ad zM0 zF0 x0 hx0 0 (zR_mk (by decide) (by decide)) ((zM0 399 1) - 1) (by have q0 := hz1.1; have p0 := hz1.2; exact zR_mk (by omega) (by omega))) kv_X12_in zk_1707 rfl hl.1 rfl (Nat.le_of_ble_eq_true rfl) (by decide) (by decide) dX12_isHare_10 (fun r2 zMr2 zFr2 H locs hrr2 hp Wd => ?_)
  obtain ⟨rfl, rfl, rfl⟩ := hp
  exact z_zret C0 Wd hret hlk (zb_01 _) ⟨by congr 1; apply propext; omega, rfl, rfl⟩ dX12_isHare_13
theorem kv_X12_hare : zKV yX12_hare cX12_hare 3 (some .int) "DrumWarrenModel" 2 := ⟨zk_1808, zk_1807, zk_40, zk_80, by decide, by decide, by decide +kernel⟩
set_option maxHeartbeats 4000000 in
set_option maxRecDepth 100000 in
theorem ct_X12_hare (l : Launch) (g : zG) (ad : Int → Nat) (zM0 zF0 : zMem) (x0 : Int) (hx0 : zR x0) (x1 : Int) (hx1 : zR x1) (h0 : 0 ≤ x0 ∧ x0 < 6 ∧ 0 ≤ x1 ∧ x1 < 4) : zMt l yX12_hare cX12_hare 3 (some .int) 0 0 0 g 410 ad [.ref (ad 398), .int (zI x0), .int (zI x1)] zM0 zF0 (zPi (fun r M' F' => (zM0 399 (72 + 4 * x0 + x1)) = r ∧ zM0 = M' ∧ zF0 = F')) := by
  refine zMt.of "DrumWarrenModel" rfl (by decide) (Nat.le_of_ble_eq_true rfl) (fun {p e s m args below meth c ls} C0 Wd hl hret hlk hin => ?_)
  have hl : lv_has ls 3 [(0, .ref (ad 398)), (1, .int (zI x0)), (2, .int (zI x1))] := hl
  refine z_aload_n C0 hl 0 rfl dX12_hare_0 ?_
  refine zg_9_0 C0 Wd zN398 zK398 zk_1612 dX12_hare_1 ?_
  refine z_bipush C0 dX12_hare_4 (by decide) ?_
  refine z_iconst C0 dX12_hare_6 ?_
  refine z_iload_n C0 hl 1 rfl dX12_hare_7 ?_
  refine z_imul C0 dX12_hare_8 ?_
  refine z_iadd C0 dX12_hare_9 ?_
  refine z_iload_n C0 hl 2 rfl dX12_hare_10 ?_
  refine z_iadd C0 dX12_hare_11 ?_
  refine z_iald C0 Wd zN399 zK399 zL399 (by omega) (by omega) (by decide) dX12_hare_12 ?_
  have hz1 : zR (zM0 399 ((72 + (4 * x0)) + x1)) := Wd.rm _ _
  exact z_iret C0 Wd hret hlk hz1 ⟨by first | rfl | (simp only [zb]; first | rfl | (split <;> omega) | omega) | (simp [zb, *]; done) | omega, by first | rfl | (simp [zb, *]; done), rfl⟩ dX12_hare_13
theorem kv_X12_of : zKV yX12_of cX12_of 3 (some .int) "DrumWarrenModel" 2 := ⟨zk_1804, zk_1803, zk_39, zk_80, by decide, by decide, by decide +kernel⟩
set_option maxHeartbeats 4000000 in
set_option maxRecDepth 100000 in
theorem ct_X12_of (l : Launch) (g : zG) (ad : Int → Nat) (zM0 zF0 : zMem) (x0 : Int) (hx0 : zR x0) (x1 : Int) (hx1 : zR x1) (h0 : 0 ≤ x0 ∧ x0 < 8 ∧ 0 ≤ x1 ∧ x1 < 47) : zMt l yX12_of cX12_of 3 (some .int) 0 0 0 g 410 ad [.ref (ad 398), .int (zI x0), .int (zI x1)] zM0 zF0 (zPi (fun r M' F' => (zM0 399 (96 + 47 * x0 + x1)) = r ∧ zM0 = M' ∧ zF0 = F')) := by
  refine zMt.of "DrumWarrenModel" rfl (by decide) (Nat.le_of_ble_eq_true rfl) (fun {p e s m args below meth c ls} C0 Wd hl hret hlk hin => ?_)
  have hl : lv_has ls 3 [(0, .ref (ad 398)), (1, .int (zI x0)), (2, .int (zI x1))] := hl
  refine z_aload_n C0 hl 0 rfl dX12_of_0 ?_
  refine zg_9_0 C0 Wd zN398 zK398 zk_1612 dX12_of_1 ?_
  refine z_bipush C0 dX12_of_4 (by decide) ?_
  refine z_bipush C0 dX12_of_6 (by decide) ?_
  refine z_iload_n C0 hl 1 rfl dX12_of_8 ?_
  refine z_imul C0 dX12_of_9 ?_
  refine z_iadd C0 dX12_of_10 ?_
  refine z_iload_n C0 hl 2 rfl dX12_of_11 ?_
  refine z_iadd C0 dX12_of_12 ?_
  refine z_iald C0 Wd zN399 zK399 zL399 (by omega) (by omega) (by decide) dX12_of_13 ?_
  have hz1 : zR (zM0 399 ((96 + (47 * x0)) + x1)) := Wd.rm _ _
  exact z_iret C0 Wd hret hlk hz1 ⟨by first | rfl | (simp only [zb]; first | rfl | (split <;> omega) | omega) | (simp [zb, *]; done) | omega, by first | rfl | (simp [zb, *]; done), rfl⟩ dX12_of_14
theorem kv_X12_sets : zKV yX12_sets cX12_sets 4 none "DrumWarrenModel" 3 := ⟨zk_1856, zk_1855, zk_43, zk_80, by decide, by decide, by decide +kernel⟩
set_option maxHeartbeats 4000000 in
set_option maxRecDepth 100000 in
theorem ct_X12_sets (l : Launch) (g : zG) (ad : Int → Nat) (zM0 zF0 : zMem) (x0 : Int) (hx0 : zR x0) (x1 : Int) (hx1 : zR x1) (x2 : Int) (hx2 : zR x2) (h0 : 0 ≤ x0 ∧ x0 < 8 ∧ 0 ≤ x1 ∧ x1 < 47) : zMt l yX12_sets cX12_sets 4 none 0 0 0 g 410 ad [.ref (ad 398), .int (zI x0), .int (zI x1), .int (zI x2)] zM0 zF0 (zPv (fun M' F' => (zu zM0 399 (96 + 47 * x0 + x1) x2) = M' ∧ zF0 = F')) := by
  refine zMt.of "DrumWarrenModel" rfl (by decide) (Nat.le_of_ble_eq_true rfl) (fun {p e s m args below meth c ls} C0 Wd hl hret hlk hin => ?_)
  have hl : lv_has ls 4 [(0, .ref (ad 398)), (1, .int (zI x0)), (2, .int (zI x1)), (3, .int (zI x2))] := hl
  refine z_aload_n C0 hl 0 rfl dX12_sets_0 ?_
  refine zg_9_0 C0 Wd zN398 zK398 zk_1612 dX12_sets_1 ?_
  refine z_bipush C0 dX12_sets_4 (by decide) ?_
  refine z_bipush C0 dX12_sets_6 (by decide) ?_
  refine z_iload_n C0 hl 1 rfl dX12_sets_8 ?_
  refine z_imul C0 dX12_sets_9 ?_
  refine z_iadd C0 dX12_sets_10 ?_
  refine z_iload_n C0 hl 2 rfl dX12_sets_11 ?_
  refine z_iadd C0 dX12_sets_12 ?_
  refine z_iload_n C0 hl 3 rfl dX12_sets_13 ?_
  refine z_iast C0 Wd zN399 zK399 zL399 (by omega) (by omega) (by decide) hx2 dX12_sets_14 (fun H locs Wd => ?_)
  exact z_vret C0 Wd hret hlk ⟨by first | rfl | (simp [zb, *]; done), rfl⟩ dX12_sets_15
theorem kv_X12_tunnel : zKS yX12_tunnel cX12_tunnel 2 (some .int) 2 := ⟨zk_1712, zk_1711, zk_80, by decide, by decide, by decide +kernel⟩
set_option maxHeartbeats 4000000 in
set_option maxRecDepth 100000 in
theorem ct_X12_tunnel (l : Launch) (g : zG) (ad : Int → Nat) (zM0 zF0 : zMem) (x0 : Int) (hx0 : zR x0) (x1 : Int) (hx1 : zR x1) (h0 : 0 ≤ x0 ∧ x0 < 8 ∧ 0 ≤ x1 ∧ x1 < 8) : zMt l yX12_tunnel cX12_tunnel 2 (some .int) 0 0 0 g 410 ad [.int (zI x0), .int (zI x1)] zM0 zF0 (zPi (fun r M' F' => (8 + 8 * x0 + x1) = r ∧ zM0 = M' ∧ zF0 = F')) := by
  refine zMt.of "DrumWarrenModel" rfl (by decide) (Nat.le_of_ble_eq_true rfl) (fun {p e s m args below meth c ls} C0 Wd hl hret hlk hin => ?_)
  have hl : lv_has ls 2 [(0, .int (zI x0)), (1, .int (zI x1))] := hl
  refine z_bipush C0 dX12_tunnel_0 (by decide) ?_
  refine z_bipush C0 dX12_tunnel_2 (by decide) ?_
  refine z_iload_n C0 hl 0 rfl dX12_tunnel_4 ?_
  refine z_imul C0 dX12_tunnel_5 ?_
  refine z_iadd C0 dX12_tunnel_6 ?_
  refine z_iload_n C0 hl 1 rfl dX12_tunnel_7 ?_
  refine z_iadd C0 dX12_tunnel_8 ?_
  exact z_iret C0 Wd hret hlk (by have q0 := hx0.1; have p0 := hx0.2; have q1 := hx1.1; have p1 := hx1.2; exact zR_mk (by omega) (by omega)) ⟨by first | rfl | (simp only [zb]; first | rfl | (split <;> omega) | omega) | (simp [zb, *]; done) | omega, by first | rfl | (simp [zb, *]; done), rfl⟩ dX12_tunnel_9
theorem kv_X12_homeOf : zKV yX12_homeOf cX12_homeOf 2 (some .int) "DrumWarrenModel" 1 := ⟨zk_1931, zk_1930, zk_50, zk_80, by decide, by decide, by decide +kernel⟩
set_option maxHeartbeats 4000000 in
set_option maxRecDepth 100000 in
theorem ct_X12_homeOf (l : Launch) (g : zG) (ad : Int → Nat) (zM0 zF0 : zMem) (x0 : Int) (hx0 : zR x0) (h0 : 0 ≤ x0 ∧ x0 < 8) (h1 : 0 ≤ zM0 399 (96 + 47 * x0 + 1) ∧ zM0 399 (96 + 47 * x0 + 1) < 6) : zMt l yX12_homeOf cX12_homeOf 2 (some .int) 1 0 0 g 410 ad [.ref (ad 398), .int (zI x0)] zM0 zF0 (zPi (fun r M' F' => (zM0 399 (72 + 4 * (zM0 399 (96 + 47 * x0 + 1)) + 0)) = r ∧ zM0 = M' ∧ zF0 = F')) := by
  refine zMt.of "DrumWarrenModel" rfl (by decide) (Nat.le_of_ble_eq_true rfl) (fun {p e s m args below meth c ls} C0 Wd hl hret hlk hin => ?_)
  have hl : lv_has ls 2 [(0, .ref (ad 398)), (1, .int (zI x0))] := hl
  refine z_aload_n C0 hl 0 rfl dX12_homeOf_0 ?_
  refine z_aload_n C0 hl 0 rfl dX12_homeOf_1 ?_
  refine z_iload_n C0 hl 1 rfl dX12_homeOf_2 ?_
  refine z_iconst C0 dX12_homeOf_3 ?_
  refine z_invVi (As := [.int (zI x0), .int (zI 1)]) (rest := [.ref (ad 398)]) C0 Wd (ct_X12_of l g ad zM0 zF0 x0 hx0 1 (zR_mk (by decide) (by decide)) (by omega)) kv_X12_of zN398 (zE_9 zK398) rfl zk_1801 rfl hl.1 rfl (Nat.le_of_ble_eq_true rfl) (by decide) (by decide) dX12_homeOf_4 (fun r1 zMr1 zFr1 H locs hrr1 hp Wd => ?_)
  obtain ⟨rfl, rfl, rfl⟩ := hp
  refine z_iconst C0 dX12_homeOf_7 ?_
  refine z_invVi (As := [.int (zI (zM0 399 (96 + 47 * x0 + 1))), .int (zI 0)]) (rest := []) C0 Wd (ct_X12_hare l g ad zM0 zF0 (zM0 399 (96 + 47 * x0 + 1)) hrr1 0 (zR_mk (by decide) (by decide)) (by omega)) kv_X12_hare zN398 (zE_9 zK398) rfl zk_1805 rfl hl.1 rfl (Nat.le_of_ble_eq_true rfl) (by decide) (by decide) dX12_homeOf_8 (fun r3 zMr3 zFr3 H locs hrr3 hp Wd => ?_)
  obtain ⟨rfl, rfl, rfl⟩ := hp
  exact z_iret C0 Wd hret hlk hrr3 ⟨by first | rfl | (simp only [zb]; first | rfl | (split <;> omega) | omega) | (simp [zb, *]; done) | omega, by first | rfl | (simp [zb, *]; done), rfl⟩ dX12_homeOf_11
theorem kv_X12_keep : zKV yX12_keep cX12_keep 1 none "DrumWarrenModel" 0 := ⟨zk_1681, zk_1680, zk_24, zk_80, by decide, by decide, by decide +kernel⟩
set_option maxHeartbeats 4000000 in
set_option maxRecDepth 100000 in
theorem ct_X12_keep (l : Launch) (g : zG) (ad : Int → Nat) (zM0 zF0 : zMem) : zMt l yX12_keep cX12_keep 1 none 1 0 0 g 410 ad [.ref (ad 398)] zM0 zF0 (zPv (fun M' F' => (zrow (zu zM0 398 8 0) 400 (zM0 399)) = M' ∧ zF0 = F')) := by
  refine zMt.of "DrumWarrenModel" rfl (by decide) (Nat.le_of_ble_eq_true rfl) (fun {p e s m args below meth c ls} C0 Wd hl hret hlk hin => ?_)
  have hl : lv_has ls 1 [(0, .ref (ad 398))] := hl
  refine z_aload_n C0 hl 0 rfl dX12_keep_0 ?_
  refine z_iconst C0 dX12_keep_1 ?_
  refine zp_9_8 C0 Wd zN398 zK398 (zR_mk (by decide) (by decide)) zk_1620 dX12_keep_2 (fun H locs Wd => ?_)
  refine z_aload_n C0 hl 0 rfl dX12_keep_5 ?_
  refine zg_9_0 C0 Wd zN398 zK398 zk_1612 dX12_keep_6 ?_
  refine z_iconst C0 dX12_keep_9 ?_
  refine z_aload_n C0 hl 0 rfl dX12_keep_10 ?_
  refine zg_9_1 C0 Wd zN398 zK398 zk_1613 dX12_keep_11 ?_
  refine z_iconst C0 dX12_keep_14 ?_
  refine z_sipush C0 dX12_keep_15 (by decide) ?_
  refine z_copyi C0 Wd hl.1 zN399 zN400 zK399 zK400 zL399 zL400 (by decide) (by decide) (by omega) (by omega) (by omega) (by omega) (by omega) (by decide) zk_1682 dX12_keep_18 (fun H locs Wd => ?_)
  replace Wd := zW.full Wd zK400 (by rw [zL400]; rfl) (zM0 399) (fun j _ _ => by rw [Int.zero_add]; rfl) (fun j => Wd.rm 399 j)
  exact z_vret C0 Wd hret hlk ⟨by first | rfl | (simp [zb, *]; done), rfl⟩ dX12_keep_21
