/-! the model's feed -/
theorem kv_X12_feed : zKV yX12_feed cX12_feed 2 (some .int) "DrumWarrenModel" 1 := ⟨zk_2007, zk_2005, zk_2006, zk_80, by decide, by decide, by decide +kernel⟩
set_option maxHeartbeats 4000000 in
set_option maxRecDepth 100000 in
theorem ct_X12_feed (l : Launch) (g : zG) (ad : Int → Nat) (zM0 zF0 : zMem) (x0 : Int) (hx0 : zR x0) (hn : 0 ≤ zM0 398 12 ∧ zM0 398 12 ≤ 60) (hx : 0 ≤ x0 ∧ x0 < 65536) : zMt l yX12_feed cX12_feed 2 (some .int) 0 0 0 g 410 ad [.ref (ad 398), .int (zI x0)] zM0 zF0 (zPi (fun r M' F' => ((zM0 398 12 = 60) ∧ 0 = r ∧ (zu zM0 398 8 1) = M' ∧ zF0 = F') ∨ ((zM0 398 12 < 60) ∧ (zM0 398 12 + 1) = r ∧ (zu (zu (zu zM0 398 8 0) 406 (zM0 398 12) x0) 398 12 (zM0 398 12 + 1)) = M' ∧ zF0 = F'))) := by
  refine zMt.of "DrumWarrenModel" rfl (by decide +kernel) (Nat.le_of_ble_eq_true rfl) (fun {p e s m args below meth c ls} C0 Wd hl hret hlk hin => ?_)
  have hl : lv_has ls 2 [(0, .ref (ad 398)), (1, .int (zI x0))] := hl
  refine z_aload_n C0 hl 0 rfl dX12_feed_0 ?_
  refine z_aload_n C0 hl 0 rfl dX12_feed_1 ?_
  refine zg_9_12 C0 Wd zN398 zK398 zk_1624 dX12_feed_2 ?_
  have hz1 : zR (zM0 398 12) := Wd.rm _ _
  refine z_bipush C0 dX12_feed_5 (by decide) ?_
  refine z_icmp_ne C0 (tgt := 14) hz1 (zR_mk (by decide) (by decide)) dX12_feed_7 (by decide) (fun c2 => ?_) (fun c2 => ?_)
  · skip
    refine z_iconst C0 dX12_feed_14 ?_
    refine zp_9_8 C0 Wd zN398 zK398 (zR_mk (by decide) (by decide)) zk_1620 dX12_feed_15 (fun H locs Wd => ?_)
    refine z_aload_n C0 hl 0 rfl dX12_feed_18 ?_
    refine zg_9_8 C0 Wd zN398 zK398 zk_1620 dX12_feed_19 ?_
    obtain ⟨he5, hz3⟩ : ((zu zM0 398 8 0) 398 8) = 0 ∧ zR 0 := (fun q => ⟨q, q ▸ Wd.rm _ _⟩) (zu_same _ _ _ _)
    refine z_top (congrArg zI he5) ?_
    clear he5
    refine z_if_le C0 (tgt := 27) (zR_mk (by decide) (by decide)) dX12_feed_22 (by decide) (fun _ => ?_) (fun h => absurd h (by decide))
    refine z_aload_n C0 hl 0 rfl dX12_feed_27 ?_
    refine zg_9_11 C0 Wd zN398 zK398 zk_1623 dX12_feed_28 ?_
    refine z_aload_n C0 hl 0 rfl dX12_feed_31 ?_
    refine zg_9_12 C0 Wd zN398 zK398 zk_1624 dX12_feed_32 ?_
    obtain ⟨he9, hz7⟩ : ((zu zM0 398 8 0) 398 12) = (zM0 398 12) ∧ zR (zM0 398 12) := (fun q => ⟨q, q ▸ Wd.rm _ _⟩) (zu_ne (by omega))
    refine z_top (congrArg zI he9) ?_
    clear he9
    refine z_iload_n C0 hl 1 rfl dX12_feed_35 ?_
    refine z_cast C0 Wd zN406 zK406 zL406 (by omega) (by omega) (by decide) (by omega) (by omega) dX12_feed_36 (fun H locs Wd => ?_)
    refine z_aload_n C0 hl 0 rfl dX12_feed_37 ?_
    refine z_dup C0 rfl dX12_feed_38 ?_
    refine zg_9_12 C0 Wd zN398 zK398 zk_1624 dX12_feed_39 ?_
    obtain ⟨he12, hz10⟩ : ((zu (zu zM0 398 8 0) 406 (zM0 398 12) x0) 398 12) = (zM0 398 12) ∧ zR (zM0 398 12) := (fun q => ⟨q, q ▸ Wd.rm _ _⟩) ((zu_ne (by omega)).trans (zu_ne (by omega)))
    refine z_top (congrArg zI he12) ?_
    clear he12
    refine z_iconst C0 dX12_feed_42 ?_
    refine z_iadd C0 dX12_feed_43 ?_
    refine zp_9_12 C0 Wd zN398 zK398 (by have q0 := hz10.1; have p0 := hz10.2; exact zR_mk (by omega) (by omega)) zk_1624 dX12_feed_44 (fun H locs Wd => ?_)
    refine z_aload_n C0 hl 0 rfl dX12_feed_47 ?_
    refine zg_9_12 C0 Wd zN398 zK398 zk_1624 dX12_feed_48 ?_
    obtain ⟨he15, hz13⟩ : ((zu (zu (zu zM0 398 8 0) 406 (zM0 398 12) x0) 398 12 ((zM0 398 12) + 1)) 398 12) = ((zM0 398 12) + 1) ∧ zR ((zM0 398 12) + 1) := (fun q => ⟨q, q ▸ Wd.rm _ _⟩) (zu_same _ _ _ _)
    refine z_top (congrArg zI he15) ?_
    clear he15
    exact z_iret C0 Wd hret hlk hz13 (by first | exact (Or.inl ⟨(by first | assumption | omega), (by first | rfl | omega), (by first | rfl | (simp [zb, *]; done)), rfl⟩) | exact (Or.inr ⟨(by first | assumption | omega), (by first | rfl | omega), (by first | rfl | (simp [zb, *]; done)), rfl⟩)) dX12_feed_51
  · skip
    refine z_iconst C0 dX12_feed_10 ?_
    refine z_goto C0 (tgt := 15) dX12_feed_11 (by decide) ?_
    refine zp_9_8 C0 Wd zN398 zK398 (zR_mk (by decide) (by decide)) zk_1620 dX12_feed_15 (fun H locs Wd => ?_)
    refine z_aload_n C0 hl 0 rfl dX12_feed_18 ?_
    refine zg_9_8 C0 Wd zN398 zK398 zk_1620 dX12_feed_19 ?_
    obtain ⟨he18, hz16⟩ : ((zu zM0 398 8 1) 398 8) = 1 ∧ zR 1 := (fun q => ⟨q, q ▸ Wd.rm _ _⟩) (zu_same _ _ _ _)
    refine z_top (congrArg zI he18) ?_
    clear he18
    refine z_if_le C0 (tgt := 27) (zR_mk (by decide) (by decide)) dX12_feed_22 (by decide) (fun h => absurd h (by decide)) (fun _ => ?_)
    refine z_iconst C0 dX12_feed_25 ?_
    exact z_iret C0 Wd hret hlk (zR_mk (by decide) (by decide)) (by first | exact (Or.inl ⟨(by first | assumption | omega), (by first | rfl | omega), (by first | rfl | (simp [zb, *]; done)), rfl⟩) | exact (Or.inr ⟨(by first | assumption | omega), (by first | rfl | omega), (by first | rfl | (simp [zb, *]; done)), rfl⟩)) dX12_feed_26
