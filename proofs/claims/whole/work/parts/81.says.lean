/-! the model says numbers -/
def zsay (x : Int) (M : zMem) : zMem := zu (zu M 405 (M 398 10) x) 398 10 (M 398 10 + 1)
theorem zsay_n {x : Int} {M : zMem} : zsay x M 398 10 = M 398 10 + 1 := zu_same _ _ _ _
/-- a number's digits are said, k + 1 at most -/
def zsN : Nat → Int → zMem → zMem
  | 0, x, M => zsay (48 + x % 10) M
  | k + 1, x, M => if x ≤ 9 then zsay (48 + x % 10) M else zsay (48 + x % 10) (zsN k (x / 10) M)
theorem zsN_n : ∀ (k : Nat) (x : Int) (M : zMem), M 398 10 + 1 ≤ zsN k x M 398 10 ∧ zsN k x M 398 10 ≤ M 398 10 + (k : Int) + 1
  | 0, x, M => by
    show M 398 10 + 1 ≤ zsay _ M 398 10 ∧ zsay _ M 398 10 ≤ _
    rw [zsay_n]
    omega
  | k + 1, x, M => by
    show M 398 10 + 1 ≤ (if x ≤ 9 then zsay (48 + x % 10) M else zsay (48 + x % 10) (zsN k (x / 10) M)) 398 10 ∧ (if x ≤ 9 then zsay (48 + x % 10) M else zsay (48 + x % 10) (zsN k (x / 10) M)) 398 10 ≤ _
    by_cases h : x ≤ 9
    · rw [if_pos h, zsay_n]
      omega
    · have q := zsN_n k (x / 10) M
      rw [if_neg h, zsay_n]
      omega

theorem kv_X12_saysNumber : zKV yX12_saysNumber cX12_saysNumber 2 none "DrumWarrenModel" 1 := ⟨zk_1991, zk_1990, zk_55, zk_80, by decide, by decide, by decide +kernel⟩
set_option maxHeartbeats 4000000 in
set_option maxRecDepth 100000 in
theorem ct_X12_says_s (l : Launch) (g : zG) (ad : Int → Nat) (zM0 zF0 : zMem) (x0 : Int) (hx0 : zR x0) (hch : 0 ≤ x0 ∧ x0 < 65536) (h10 : 0 ≤ zM0 398 10 ∧ zM0 398 10 < 30) : zMt l yX12_says cX12_says 2 none 0 0 0 g 410 ad [.ref (ad 398), .int (zI x0)] zM0 zF0 (zPv (fun M' F' => (zsay x0 zM0) = M' ∧ zF0 = F')) := by
  refine zMt.of "DrumWarrenModel" rfl (by decide +kernel) (Nat.le_of_ble_eq_true rfl) (fun {p e s m args below meth c ls} C0 Wd hl hret hlk hin => ?_)
  have hl : lv_has ls 2 [(0, .ref (ad 398)), (1, .int (zI x0))] := hl
  refine z_aload_n C0 hl 0 rfl dX12_says_0 ?_
  refine zg_9_9 C0 Wd zN398 zK398 zk_1621 dX12_says_1 ?_
  refine z_aload_n C0 hl 0 rfl dX12_says_4 ?_
  refine zg_9_10 C0 Wd zN398 zK398 zk_1622 dX12_says_5 ?_
  have hz1 : zR (zM0 398 10) := Wd.rm _ _
  refine z_iload_n C0 hl 1 rfl dX12_says_8 ?_
  refine z_i2c C0 (v := x0) (zI_char (by omega) (by omega)) dX12_says_9 ?_
  refine z_cast C0 Wd zN405 zK405 zL405 (by omega) (by omega) (by decide) (by omega) (by omega) dX12_says_10 (fun H locs Wd => ?_)
  refine z_aload_n C0 hl 0 rfl dX12_says_11 ?_
  refine z_dup C0 rfl dX12_says_12 ?_
  refine zg_9_10 C0 Wd zN398 zK398 zk_1622 dX12_says_13 ?_
  obtain ⟨he4, hz2⟩ : ((zu zM0 405 (zM0 398 10) x0) 398 10) = (zM0 398 10) ∧ zR (zM0 398 10) := (fun q => ⟨q, q ▸ Wd.rm _ _⟩) (zu_ne (by omega))
  refine z_top (congrArg zI he4) ?_
  clear he4
  refine z_iconst C0 dX12_says_16 ?_
  refine z_iadd C0 dX12_says_17 ?_
  refine zp_9_10 C0 Wd zN398 zK398 (by have q0 := hz2.1; have p0 := hz2.2; exact zR_mk (by omega) (by omega)) zk_1622 dX12_says_18 (fun H locs Wd => ?_)
  exact z_vret C0 Wd hret hlk ⟨rfl, rfl⟩ dX12_says_21
set_option maxHeartbeats 4000000 in
set_option maxRecDepth 100000 in
theorem ct_X12_saysNumber_0 (l : Launch) (g : zG) (ad : Int → Nat) (zM0 zF0 : zMem) (x0 : Int) (hx0 : zR x0) (h0 : 0 ≤ x0 ∧ x0 < 10) (h10 : 0 ≤ zM0 398 10 ∧ zM0 398 10 < 30) : zMt l yX12_saysNumber cX12_saysNumber 2 none 1 0 0 g 410 ad [.ref (ad 398), .int (zI x0)] zM0 zF0 (zPv (fun M' F' => (zsN 0 x0 zM0) = M' ∧ zF0 = F')) := by
  refine zMt.of "DrumWarrenModel" rfl (by decide +kernel) (Nat.le_of_ble_eq_true rfl) (fun {p e s m args below meth c ls} C0 Wd hl hret hlk hin => ?_)
  have hl : lv_has ls 2 [(0, .ref (ad 398)), (1, .int (zI x0))] := hl
  refine z_iload_n C0 hl 1 rfl dX12_saysNumber_0 ?_
  refine z_bipush C0 dX12_saysNumber_1 (by decide) ?_
  refine z_icmp_le C0 (tgt := 14) hx0 (zR_mk (by decide) (by decide)) dX12_saysNumber_3 (by decide) (fun c1 => ?_) (fun c1 => absurd c1 (by omega))
  refine z_aload_n C0 hl 0 rfl dX12_saysNumber_14 ?_
  refine z_bipush C0 dX12_saysNumber_15 (by decide) ?_
  refine z_iload_n C0 hl 1 rfl dX12_saysNumber_17 ?_
  refine z_bipush C0 dX12_saysNumber_18 (by decide) ?_
  refine z_irem C0 (v := (x0 % 10)) ⟨⟨by omega, by omega⟩, ⟨by decide, by decide⟩, rfl⟩ dX12_saysNumber_20 ?_
  refine z_iadd C0 dX12_saysNumber_21 ?_
  refine z_invVv (As := [.int (zI (48 + (x0 % 10)))]) (rest := []) C0 Wd (ct_X12_says_s l g ad zM0 zF0 (48 + (x0 % 10)) (by have q0 := hx0.1; have p0 := hx0.2; exact zR_mk (by omega) (by omega)) (by omega) (by omega)) kv_X12_says zN398 (zE_9 zK398) rfl zk_1992 rfl hl.1 rfl (Nat.le_of_ble_eq_true rfl) (by decide) (by decide) dX12_saysNumber_22 (fun zMr2 zFr2 H locs hp Wd => ?_)
  obtain ⟨rfl, rfl⟩ := hp
  exact z_vret C0 Wd hret hlk ⟨rfl, rfl⟩ dX12_saysNumber_25
set_option maxHeartbeats 4000000 in
set_option maxRecDepth 100000 in
theorem ct_X12_saysNumber_1 (l : Launch) (g : zG) (ad : Int → Nat) (zM0 zF0 : zMem) (x0 : Int) (hx0 : zR x0) (h0 : 0 ≤ x0 ∧ x0 < 100) (h10 : 0 ≤ zM0 398 10 ∧ zM0 398 10 < 29) : zMt l yX12_saysNumber cX12_saysNumber 2 none 2 0 0 g 410 ad [.ref (ad 398), .int (zI x0)] zM0 zF0 (zPv (fun M' F' => (zsN 1 x0 zM0) = M' ∧ zF0 = F')) := by
  refine zMt.of "DrumWarrenModel" rfl (by decide +kernel) (Nat.le_of_ble_eq_true rfl) (fun {p e s m args below meth c ls} C0 Wd hl hret hlk hin => ?_)
  have hl : lv_has ls 2 [(0, .ref (ad 398)), (1, .int (zI x0))] := hl
  refine z_iload_n C0 hl 1 rfl dX12_saysNumber_0 ?_
  refine z_bipush C0 dX12_saysNumber_1 (by decide) ?_
  refine z_icmp_le C0 (tgt := 14) hx0 (zR_mk (by decide) (by decide)) dX12_saysNumber_3 (by decide) (fun c1 => ?_) (fun c1 => ?_)
  · skip
    refine z_aload_n C0 hl 0 rfl dX12_saysNumber_14 ?_
    refine z_bipush C0 dX12_saysNumber_15 (by decide) ?_
    refine z_iload_n C0 hl 1 rfl dX12_saysNumber_17 ?_
    refine z_bipush C0 dX12_saysNumber_18 (by decide) ?_
    refine z_irem C0 (v := (x0 % 10)) ⟨⟨by omega, by omega⟩, ⟨by decide, by decide⟩, rfl⟩ dX12_saysNumber_20 ?_
    refine z_iadd C0 dX12_saysNumber_21 ?_
    refine z_invVv (As := [.int (zI (48 + (x0 % 10)))]) (rest := []) C0 Wd (ct_X12_says_s l g ad zM0 zF0 (48 + (x0 % 10)) (by have q0 := hx0.1; have p0 := hx0.2; exact zR_mk (by omega) (by omega)) (by omega) (by omega)) kv_X12_says zN398 (zE_9 zK398) rfl zk_1992 rfl hl.1 rfl (Nat.le_of_ble_eq_true rfl) (by decide) (by decide) dX12_saysNumber_22 (fun zMr2 zFr2 H locs hp Wd => ?_)
    obtain ⟨rfl, rfl⟩ := hp
    exact z_vret C0 Wd hret hlk ⟨by show (if x0 ≤ 9 then _ else _) = _; rw [if_pos (by omega)], rfl⟩ dX12_saysNumber_25
  · skip
    refine z_aload_n C0 hl 0 rfl dX12_saysNumber_6 ?_
    refine z_iload_n C0 hl 1 rfl dX12_saysNumber_7 ?_
    refine z_bipush C0 dX12_saysNumber_8 (by decide) ?_
    refine z_idiv C0 (v := (x0 / 10)) ⟨⟨by omega, by omega⟩, ⟨by decide, by decide⟩, rfl⟩ dX12_saysNumber_10 ?_
    refine z_invVv (As := [.int (zI (x0 / 10))]) (rest := []) C0 Wd (ct_X12_saysNumber_0 l g ad zM0 zF0 (x0 / 10) (by have q0 := hx0.1; have p0 := hx0.2; exact zR_mk (by omega) (by omega)) (by omega) (by omega)) kv_X12_saysNumber zN398 (zE_9 zK398) rfl zk_1988 rfl hl.1 rfl (Nat.le_of_ble_eq_true rfl) (by decide) (by decide) dX12_saysNumber_11 (fun zMr4 zFr4 H locs hp Wd => ?_)
    obtain ⟨rfl, rfl⟩ := hp
    have hnn := zsN_n 0 (x0 / 10) zM0
    refine z_aload_n C0 hl 0 rfl dX12_saysNumber_14 ?_
    refine z_bipush C0 dX12_saysNumber_15 (by decide) ?_
    refine z_iload_n C0 hl 1 rfl dX12_saysNumber_17 ?_
    refine z_bipush C0 dX12_saysNumber_18 (by decide) ?_
    refine z_irem C0 (v := (x0 % 10)) ⟨⟨by omega, by omega⟩, ⟨by decide, by decide⟩, rfl⟩ dX12_saysNumber_20 ?_
    refine z_iadd C0 dX12_saysNumber_21 ?_
    refine z_invVv (As := [.int (zI (48 + (x0 % 10)))]) (rest := []) C0 Wd (ct_X12_says_s l g ad (zsN 0 (x0 / 10) zM0) zF0 (48 + (x0 % 10)) (by have q0 := hx0.1; have p0 := hx0.2; exact zR_mk (by omega) (by omega)) (by omega) (by omega)) kv_X12_says zN398 (zE_9 zK398) rfl zk_1992 rfl hl.1 rfl (Nat.le_of_ble_eq_true rfl) (by decide) (by decide) dX12_saysNumber_22 (fun zMr6 zFr6 H locs hp Wd => ?_)
    obtain ⟨rfl, rfl⟩ := hp
    exact z_vret C0 Wd hret hlk ⟨by show (if x0 ≤ 9 then _ else _) = _; rw [if_neg (by omega)], rfl⟩ dX12_saysNumber_25
set_option maxHeartbeats 4000000 in
set_option maxRecDepth 100000 in
theorem ct_X12_saysNumber_2 (l : Launch) (g : zG) (ad : Int → Nat) (zM0 zF0 : zMem) (x0 : Int) (hx0 : zR x0) (h0 : 0 ≤ x0 ∧ x0 < 1000) (h10 : 0 ≤ zM0 398 10 ∧ zM0 398 10 < 28) : zMt l yX12_saysNumber cX12_saysNumber 2 none 3 0 0 g 410 ad [.ref (ad 398), .int (zI x0)] zM0 zF0 (zPv (fun M' F' => (zsN 2 x0 zM0) = M' ∧ zF0 = F')) := by
  refine zMt.of "DrumWarrenModel" rfl (by decide +kernel) (Nat.le_of_ble_eq_true rfl) (fun {p e s m args below meth c ls} C0 Wd hl hret hlk hin => ?_)
  have hl : lv_has ls 2 [(0, .ref (ad 398)), (1, .int (zI x0))] := hl
  refine z_iload_n C0 hl 1 rfl dX12_saysNumber_0 ?_
  refine z_bipush C0 dX12_saysNumber_1 (by decide) ?_
  refine z_icmp_le C0 (tgt := 14) hx0 (zR_mk (by decide) (by decide)) dX12_saysNumber_3 (by decide) (fun c1 => ?_) (fun c1 => ?_)
  · skip
    refine z_aload_n C0 hl 0 rfl dX12_saysNumber_14 ?_
    refine z_bipush C0 dX12_saysNumber_15 (by decide) ?_
    refine z_iload_n C0 hl 1 rfl dX12_saysNumber_17 ?_
    refine z_bipush C0 dX12_saysNumber_18 (by decide) ?_
    refine z_irem C0 (v := (x0 % 10)) ⟨⟨by omega, by omega⟩, ⟨by decide, by decide⟩, rfl⟩ dX12_saysNumber_20 ?_
    refine z_iadd C0 dX12_saysNumber_21 ?_
    refine z_invVv (As := [.int (zI (48 + (x0 % 10)))]) (rest := []) C0 Wd (ct_X12_says_s l g ad zM0 zF0 (48 + (x0 % 10)) (by have q0 := hx0.1; have p0 := hx0.2; exact zR_mk (by omega) (by omega)) (by omega) (by omega)) kv_X12_says zN398 (zE_9 zK398) rfl zk_1992 rfl hl.1 rfl (Nat.le_of_ble_eq_true rfl) (by decide) (by decide) dX12_saysNumber_22 (fun zMr2 zFr2 H locs hp Wd => ?_)
    obtain ⟨rfl, rfl⟩ := hp
    exact z_vret C0 Wd hret hlk ⟨by show (if x0 ≤ 9 then _ else _) = _; rw [if_pos (by omega)], rfl⟩ dX12_saysNumber_25
  · skip
    refine z_aload_n C0 hl 0 rfl dX12_saysNumber_6 ?_
    refine z_iload_n C0 hl 1 rfl dX12_saysNumber_7 ?_
    refine z_bipush C0 dX12_saysNumber_8 (by decide) ?_
    refine z_idiv C0 (v := (x0 / 10)) ⟨⟨by omega, by omega⟩, ⟨by decide, by decide⟩, rfl⟩ dX12_saysNumber_10 ?_
    refine z_invVv (As := [.int (zI (x0 / 10))]) (rest := []) C0 Wd (ct_X12_saysNumber_1 l g ad zM0 zF0 (x0 / 10) (by have q0 := hx0.1; have p0 := hx0.2; exact zR_mk (by omega) (by omega)) (by omega) (by omega)) kv_X12_saysNumber zN398 (zE_9 zK398) rfl zk_1988 rfl hl.1 rfl (Nat.le_of_ble_eq_true rfl) (by decide) (by decide) dX12_saysNumber_11 (fun zMr4 zFr4 H locs hp Wd => ?_)
    obtain ⟨rfl, rfl⟩ := hp
    have hnn := zsN_n 1 (x0 / 10) zM0
    refine z_aload_n C0 hl 0 rfl dX12_saysNumber_14 ?_
    refine z_bipush C0 dX12_saysNumber_15 (by decide) ?_
    refine z_iload_n C0 hl 1 rfl dX12_saysNumber_17 ?_
    refine z_bipush C0 dX12_saysNumber_18 (by decide) ?_
    refine z_irem C0 (v := (x0 % 10)) ⟨⟨by omega, by omega⟩, ⟨by decide, by decide⟩, rfl⟩ dX12_saysNumber_20 ?_
    refine z_iadd C0 dX12_saysNumber_21 ?_
    refine z_invVv (As := [.int (zI (48 + (x0 % 10)))]) (rest := []) C0 Wd (ct_X12_says_s l g ad (zsN 1 (x0 / 10) zM0) zF0 (48 + (x0 % 10)) (by have q0 := hx0.1; have p0 := hx0.2; exact zR_mk (by omega) (by omega)) (by omega) (by omega)) kv_X12_says zN398 (zE_9 zK398) rfl zk_1992 rfl hl.1 rfl (Nat.le_of_ble_eq_true rfl) (by decide) (by decide) dX12_saysNumber_22 (fun zMr6 zFr6 H locs hp Wd => ?_)
    obtain ⟨rfl, rfl⟩ := hp
    exact z_vret C0 Wd hret hlk ⟨by show (if x0 ≤ 9 then _ else _) = _; rw [if_neg (by omega)], rfl⟩ dX12_saysNumber_25
set_option maxHeartbeats 4000000 in
set_option maxRecDepth 100000 in
theorem ct_X12_saysNumber_3 (l : Launch) (g : zG) (ad : Int → Nat) (zM0 zF0 : zMem) (x0 : Int) (hx0 : zR x0) (h0 : 0 ≤ x0 ∧ x0 < 10000) (h10 : 0 ≤ zM0 398 10 ∧ zM0 398 10 < 27) : zMt l yX12_saysNumber cX12_saysNumber 2 none 4 0 0 g 410 ad [.ref (ad 398), .int (zI x0)] zM0 zF0 (zPv (fun M' F' => (zsN 3 x0 zM0) = M' ∧ zF0 = F')) := by
  refine zMt.of "DrumWarrenModel" rfl (by decide +kernel) (Nat.le_of_ble_eq_true rfl) (fun {p e s m args below meth c ls} C0 Wd hl hret hlk hin => ?_)
  have hl : lv_has ls 2 [(0, .ref (ad 398)), (1, .int (zI x0))] := hl
  refine z_iload_n C0 hl 1 rfl dX12_saysNumber_0 ?_
  refine z_bipush C0 dX12_saysNumber_1 (by decide) ?_
  refine z_icmp_le C0 (tgt := 14) hx0 (zR_mk (by decide) (by decide)) dX12_saysNumber_3 (by decide) (fun c1 => ?_) (fun c1 => ?_)
  · skip
    refine z_aload_n C0 hl 0 rfl dX12_saysNumber_14 ?_
    refine z_bipush C0 dX12_saysNumber_15 (by decide) ?_
    refine z_iload_n C0 hl 1 rfl dX12_saysNumber_17 ?_
    refine z_bipush C0 dX12_saysNumber_18 (by decide) ?_
    refine z_irem C0 (v := (x0 % 10)) ⟨⟨by omega, by omega⟩, ⟨by decide, by decide⟩, rfl⟩ dX12_saysNumber_20 ?_
    refine z_iadd C0 dX12_saysNumber_21 ?_
    refine z_invVv (As := [.int (zI (48 + (x0 % 10)))]) (rest := []) C0 Wd (ct_X12_says_s l g ad zM0 zF0 (48 + (x0 % 10)) (by have q0 := hx0.1; have p0 := hx0.2; exact zR_mk (by omega) (by omega)) (by omega) (by omega)) kv_X12_says zN398 (zE_9 zK398) rfl zk_1992 rfl hl.1 rfl (Nat.le_of_ble_eq_true rfl) (by decide) (by decide) dX12_saysNumber_22 (fun zMr2 zFr2 H locs hp Wd => ?_)
    obtain ⟨rfl, rfl⟩ := hp
    exact z_vret C0 Wd hret hlk ⟨by show (if x0 ≤ 9 then _ else _) = _; rw [if_pos (by omega)], rfl⟩ dX12_saysNumber_25
  · skip
    refine z_aload_n C0 hl 0 rfl dX12_saysNumber_6 ?_
    refine z_iload_n C0 hl 1 rfl dX12_saysNumber_7 ?_
    refine z_bipush C0 dX12_saysNumber_8 (by decide) ?_
    refine z_idiv C0 (v := (x0 / 10)) ⟨⟨by omega, by omega⟩, ⟨by decide, by decide⟩, rfl⟩ dX12_saysNumber_10 ?_
    refine z_invVv (As := [.int (zI (x0 / 10))]) (rest := []) C0 Wd (ct_X12_saysNumber_2 l g ad zM0 zF0 (x0 / 10) (by have q0 := hx0.1; have p0 := hx0.2; exact zR_mk (by omega) (by omega)) (by omega) (by omega)) kv_X12_saysNumber zN398 (zE_9 zK398) rfl zk_1988 rfl hl.1 rfl (Nat.le_of_ble_eq_true rfl) (by decide) (by decide) dX12_saysNumber_11 (fun zMr4 zFr4 H locs hp Wd => ?_)
    obtain ⟨rfl, rfl⟩ := hp
    have hnn := zsN_n 2 (x0 / 10) zM0
    refine z_aload_n C0 hl 0 rfl dX12_saysNumber_14 ?_
    refine z_bipush C0 dX12_saysNumber_15 (by decide) ?_
    refine z_iload_n C0 hl 1 rfl dX12_saysNumber_17 ?_
    refine z_bipush C0 dX12_saysNumber_18 (by decide) ?_
    refine z_irem C0 (v := (x0 % 10)) ⟨⟨by omega, by omega⟩, ⟨by decide, by decide⟩, rfl⟩ dX12_saysNumber_20 ?_
    refine z_iadd C0 dX12_saysNumber_21 ?_
    refine z_invVv (As := [.int (zI (48 + (x0 % 10)))]) (rest := []) C0 Wd (ct_X12_says_s l g ad (zsN 2 (x0 / 10) zM0) zF0 (48 + (x0 % 10)) (by have q0 := hx0.1; have p0 := hx0.2; exact zR_mk (by omega) (by omega)) (by omega) (by omega)) kv_X12_says zN398 (zE_9 zK398) rfl zk_1992 rfl hl.1 rfl (Nat.le_of_ble_eq_true rfl) (by decide) (by decide) dX12_saysNumber_22 (fun zMr6 zFr6 H locs hp Wd => ?_)
    obtain ⟨rfl, rfl⟩ := hp
    exact z_vret C0 Wd hret hlk ⟨by show (if x0 ≤ 9 then _ else _) = _; rw [if_neg (by omega)], rfl⟩ dX12_saysNumber_25
set_option maxHeartbeats 4000000 in
set_option maxRecDepth 100000 in
theorem ct_X12_saysNumber_4 (l : Launch) (g : zG) (ad : Int → Nat) (zM0 zF0 : zMem) (x0 : Int) (hx0 : zR x0) (h0 : 0 ≤ x0 ∧ x0 < 100000) (h10 : 0 ≤ zM0 398 10 ∧ zM0 398 10 < 26) : zMt l yX12_saysNumber cX12_saysNumber 2 none 5 0 0 g 410 ad [.ref (ad 398), .int (zI x0)] zM0 zF0 (zPv (fun M' F' => (zsN 4 x0 zM0) = M' ∧ zF0 = F')) := by
  refine zMt.of "DrumWarrenModel" rfl (by decide +kernel) (Nat.le_of_ble_eq_true rfl) (fun {p e s m args below meth c ls} C0 Wd hl hret hlk hin => ?_)
  have hl : lv_has ls 2 [(0, .ref (ad 398)), (1, .int (zI x0))] := hl
  refine z_iload_n C0 hl 1 rfl dX12_saysNumber_0 ?_
  refine z_bipush C0 dX12_saysNumber_1 (by decide) ?_
  refine z_icmp_le C0 (tgt := 14) hx0 (zR_mk (by decide) (by decide)) dX12_saysNumber_3 (by decide) (fun c1 => ?_) (fun c1 => ?_)
  · skip
    refine z_aload_n C0 hl 0 rfl dX12_saysNumber_14 ?_
    refine z_bipush C0 dX12_saysNumber_15 (by decide) ?_
    refine z_iload_n C0 hl 1 rfl dX12_saysNumber_17 ?_
    refine z_bipush C0 dX12_saysNumber_18 (by decide) ?_
    refine z_irem C0 (v := (x0 % 10)) ⟨⟨by omega, by omega⟩, ⟨by decide, by decide⟩, rfl⟩ dX12_saysNumber_20 ?_
    refine z_iadd C0 dX12_saysNumber_21 ?_
    refine z_invVv (As := [.int (zI (48 + (x0 % 10)))]) (rest := []) C0 Wd (ct_X12_says_s l g ad zM0 zF0 (48 + (x0 % 10)) (by have q0 := hx0.1; have p0 := hx0.2; exact zR_mk (by omega) (by omega)) (by omega) (by omega)) kv_X12_says zN398 (zE_9 zK398) rfl zk_1992 rfl hl.1 rfl (Nat.le_of_ble_eq_true rfl) (by decide) (by decide) dX12_saysNumber_22 (fun zMr2 zFr2 H locs hp Wd => ?_)
    obtain ⟨rfl, rfl⟩ := hp
    exact z_vret C0 Wd hret hlk ⟨by show (if x0 ≤ 9 then _ else _) = _; rw [if_pos (by omega)], rfl⟩ dX12_saysNumber_25
  · skip
    refine z_aload_n C0 hl 0 rfl dX12_saysNumber_6 ?_
    refine z_iload_n C0 hl 1 rfl dX12_saysNumber_7 ?_
    refine z_bipush C0 dX12_saysNumber_8 (by decide) ?_
    refine z_idiv C0 (v := (x0 / 10)) ⟨⟨by omega, by omega⟩, ⟨by decide, by decide⟩, rfl⟩ dX12_saysNumber_10 ?_
    refine z_invVv (As := [.int (zI (x0 / 10))]) (rest := []) C0 Wd (ct_X12_saysNumber_3 l g ad zM0 zF0 (x0 / 10) (by have q0 := hx0.1; have p0 := hx0.2; exact zR_mk (by omega) (by omega)) (by omega) (by omega)) kv_X12_saysNumber zN398 (zE_9 zK398) rfl zk_1988 rfl hl.1 rfl (Nat.le_of_ble_eq_true rfl) (by decide) (by decide) dX12_saysNumber_11 (fun zMr4 zFr4 H locs hp Wd => ?_)
    obtain ⟨rfl, rfl⟩ := hp
    have hnn := zsN_n 3 (x0 / 10) zM0
    refine z_aload_n C0 hl 0 rfl dX12_saysNumber_14 ?_
    refine z_bipush C0 dX12_saysNumber_15 (by decide) ?_
    refine z_iload_n C0 hl 1 rfl dX12_saysNumber_17 ?_
    refine z_bipush C0 dX12_saysNumber_18 (by decide) ?_
    refine z_irem C0 (v := (x0 % 10)) ⟨⟨by omega, by omega⟩, ⟨by decide, by decide⟩, rfl⟩ dX12_saysNumber_20 ?_
    refine z_iadd C0 dX12_saysNumber_21 ?_
    refine z_invVv (As := [.int (zI (48 + (x0 % 10)))]) (rest := []) C0 Wd (ct_X12_says_s l g ad (zsN 3 (x0 / 10) zM0) zF0 (48 + (x0 % 10)) (by have q0 := hx0.1; have p0 := hx0.2; exact zR_mk (by omega) (by omega)) (by omega) (by omega)) kv_X12_says zN398 (zE_9 zK398) rfl zk_1992 rfl hl.1 rfl (Nat.le_of_ble_eq_true rfl) (by decide) (by decide) dX12_saysNumber_22 (fun zMr6 zFr6 H locs hp Wd => ?_)
    obtain ⟨rfl, rfl⟩ := hp
    exact z_vret C0 Wd hret hlk ⟨by show (if x0 ≤ 9 then _ else _) = _; rw [if_neg (by omega)], rfl⟩ dX12_saysNumber_25
