/-! the model says -/
theorem kv_X12_says : zKV yX12_says cX12_says 2 none "DrumWarrenModel" 1 := ⟨zk_1995, zk_1994, zk_56, zk_80, by decide, by decide, by decide +kernel⟩
set_option maxHeartbeats 4000000 in
set_option maxRecDepth 100000 in
theorem ct_X12_says (l : Launch) (g : zG) (ad : Int → Nat) (zM0 zF0 : zMem) (x0 : Int) (hx0 : zR x0) (hch : 0 ≤ x0 ∧ x0 < 65536) (h10 : 0 ≤ zM0 398 10 ∧ zM0 398 10 < 30) : zMt l yX12_says cX12_says 2 none 0 0 0 g 410 ad [.ref (ad 398), .int (zI x0)] zM0 zF0 (zPv (fun M' F' => (zu (zu zM0 405 (zM0 398 10) x0) 398 10 (zM0 398 10 + 1)) = M' ∧ zF0 = F')) := by
  refine zMt.of "DrumWarrenModel" rfl (by decide +kernel) (Nat.le_of_ble_eq_true rfl) (fun {p e s m args below meth c ls} C0 Wd hl hret hlk hin => ?_)
  have hl : lv_has ls 2 [(0, .ref (ad 398)), (1, .int (zI x0))] := hl
  refine z_aload_n C0 hl 0 rfl dX12_says_0 ?_
  refine zg_9_9 C0 Wd zN398 zK398 zk_1621 dX12_says_1 ?_
  refine z_aload_n C0 hl 0 rfl dX12_says_4 ?_
  refine zg_9_10 C0 Wd zN398 zK398 zk_1622 dX12_says_5 ?_
  have hz1 : zR (zM0 398 10) := Wd.rm _ _
  refine z_iload_n C0 hl 1 rfl dX12_says_8 ?_
  refine z_i2c C0 (v := x0) (zI_char (by omega) (by omega)) dX12_says_9 ?_
  refine z_cast C0 Wd zN405 zK405 zL405 (by omega) (by omega) (by decide) (by omega) (by omega) dX12_says_10 (fun H locs Wd => ?_)
  refine z_aload_n C0 hl 0 rfl dX12_says_11 ?_
  refine z_dup C0 rfl dX12_says_12 ?_
  refine zg_9_10 C0 Wd zN398 zK398 zk_1622 dX12_says_13 ?_
  obtain ⟨he4, hz2⟩ : ((zu zM0 405 (zM0 398 10) x0) 398 10) = (zM0 398 10) ∧ zR (zM0 398 10) := (fun q => ⟨q, q ▸ Wd.rm _ _⟩) (zu_ne (by omega))
  refine z_top (congrArg zI he4) ?_
  clear he4
  refine z_iconst C0 dX12_says_16 ?_
  refine z_iadd C0 dX12_says_17 ?_
  refine zp_9_10 C0 Wd zN398 zK398 (by have q0 := hz2.1; have p0 := hz2.2; exact zR_mk (by omega) (by omega)) zk_1622 dX12_says_18 (fun H locs Wd => ?_)
  exact z_vret C0 Wd hret hlk ⟨by first | rfl | (simp [zb, *]; done), rfl⟩ dX12_says_21
