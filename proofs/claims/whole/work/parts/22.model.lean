/-! the model: do -/
theorem kv_X12_ends : zKV yX12_ends cX12_ends 2 (some .int) "DrumWarrenModel" 1 := ⟨zk_1694, zk_1693, zk_27, zk_80, by decide, by decide, by decide +kernel⟩
set_option maxHeartbeats 4000000 in
set_option maxRecDepth 100000 in
theorem ct_X12_ends_fail (l : Launch) (g : zG) (ad : Int → Nat) (zM0 zF0 : zMem) (x0 : Int) (hx0 : zR x0) (h0 : 0 < zM0 398 8) : zMt l yX12_ends cX12_ends 2 (some .int) 1 0 0 g 410 ad [.ref (ad 398), .int (zI x0)] zM0 zF0 (zPi (fun r M' F' => 0 = r ∧ (zrow zM0 399 (zM0 400)) = M' ∧ zF0 = F')) := by
  refine zMt.of "DrumWarrenModel" rfl (by decide) (Nat.le_of_ble_eq_true rfl) (fun {p e s m args below meth c ls} C0 Wd hl hret hlk hin => ?_)
  have hl : lv_has ls 2 [(0, .ref (ad 398)), (1, .int (zI x0))] := hl
  refine z_aload_n C0 hl 0 rfl dX12_ends_0 ?_
  refine zg_9_8 C0 Wd zN398 zK398 zk_1620 dX12_ends_1 ?_
  have hz1 : zR (zM0 398 8) := Wd.rm _ _
  refine z_if_le C0 (tgt := 25) hz1 dX12_ends_4 (by decide) (fun c2 => absurd c2 (by omega)) (fun c2 => ?_)
  refine z_aload_n C0 hl 0 rfl dX12_ends_7 ?_
  refine zg_9_1 C0 Wd zN398 zK398 zk_1613 dX12_ends_8 ?_
  refine z_iconst C0 dX12_ends_11 ?_
  refine z_aload_n C0 hl 0 rfl dX12_ends_12 ?_
  refine zg_9_0 C0 Wd zN398 zK398 zk_1612 dX12_ends_13 ?_
  refine z_iconst C0 dX12_ends_16 ?_
  refine z_sipush C0 dX12_ends_17 (by decide) ?_
  refine z_copyi C0 Wd hl.1 zN400 zN399 zK400 zK399 zL400 zL399 (by decide) (by decide) (by omega) (by omega) (by omega) (by omega) (by omega) (by decide) zk_1682 dX12_ends_20 (fun H locs Wd => ?_)
  replace Wd := zW.full Wd zK399 (by rw [zL399]; rfl) (zM0 400) (fun j _ _ => by rw [Int.zero_add]) (fun j => Wd.rm 400 j)
  refine z_iconst C0 dX12_ends_23 ?_
  exact z_iret C0 Wd hret hlk (zR_mk (by decide) (by decide)) ⟨by first | rfl | (simp only [zb]; first | rfl | (split <;> omega) | omega) | (simp [zb, *]; done) | omega, by first | rfl | (simp [zb, *]; done), rfl⟩ dX12_ends_24
set_option maxHeartbeats 4000000 in
set_option maxRecDepth 100000 in
theorem ct_X12_ends_ok (l : Launch) (g : zG) (ad : Int → Nat) (zM0 zF0 : zMem) (x0 : Int) (hx0 : zR x0) (h0 : zM0 398 8 = 0) (h1 : 0 ≤ zM0 398 6 ∧ zM0 398 6 ≤ 8) : zMt l yX12_ends cX12_ends 2 (some .int) 1 0 0 g 410 ad [.ref (ad 398), .int (zI x0)] zM0 zF0 (zPi (fun r M' F' => x0 = r ∧ (zpush zM0) = M' ∧ zF0 = F')) := by
  refine zMt.of "DrumWarrenModel" rfl (by decide) (Nat.le_of_ble_eq_true rfl) (fun {p e s m args below meth c ls} C0 Wd hl hret hlk hin => ?_)
  have hl : lv_has ls 2 [(0, .ref (ad 398)), (1, .int (zI x0))] := hl
  refine z_aload_n C0 hl 0 rfl dX12_ends_0 ?_
  refine zg_9_8 C0 Wd zN398 zK398 zk_1620 dX12_ends_1 ?_
  have hz1 : zR (zM0 398 8) := Wd.rm _ _
  refine z_if_le C0 (tgt := 25) hz1 dX12_ends_4 (by decide) (fun c2 => ?_) (fun c2 => absurd c2 (by omega))
  refine z_aload_n C0 hl 0 rfl dX12_ends_25 ?_
  refine zg_9_6 C0 Wd zN398 zK398 zk_1618 dX12_ends_26 ?_
  have hz3 : zR (zM0 398 6) := Wd.rm _ _
  refine z_bipush C0 dX12_ends_29 (by decide) ?_
  refine z_icmp_ne C0 (tgt := 62) hz3 (zR_mk (by decide) (by decide)) dX12_ends_31 (by decide) (fun c4 => ?_) (fun c4 => ?_)
  · skip
    refine z_aload_n C0 hl 0 rfl dX12_ends_62 ?_
    refine zg_9_1 C0 Wd zN398 zK398 zk_1613 dX12_ends_63 ?_
    refine z_iconst C0 dX12_ends_66 ?_
    refine z_aload_n C0 hl 0 rfl dX12_ends_67 ?_
    refine zg_9_5 C0 Wd zN398 zK398 zk_1617 dX12_ends_68 ?_
    refine z_sipush C0 dX12_ends_71 (by decide) ?_
    refine z_aload_n C0 hl 0 rfl dX12_ends_74 ?_
    refine zg_9_6 C0 Wd zN398 zK398 zk_1618 dX12_ends_75 ?_
    have hz5 : zR (zM0 398 6) := Wd.rm _ _
    refine z_imul C0 dX12_ends_78 ?_
    refine z_sipush C0 dX12_ends_79 (by decide) ?_
    refine z_copyi C0 Wd hl.1 zN400 zN403 zK400 zK403 zL400 zL403 (by decide) (by decide) (by omega) (by omega) (by omega) (by omega) (by omega) (by decide) zk_1682 dX12_ends_82 (fun H locs Wd => ?_)
    refine z_aload_n C0 hl 0 rfl dX12_ends_85 ?_
    refine z_dup C0 rfl dX12_ends_86 ?_
    refine zg_9_6 C0 Wd zN398 zK398 zk_1618 dX12_ends_87 ?_
    obtain ⟨he8, hz6⟩ : ((zcpy zM0 400 0 403 (1496 * (zM0 398 6)) 1496) 398 6) = (zM0 398 6) ∧ zR (zM0 398 6) := (fun q => ⟨q, q ▸ Wd.rm _ _⟩) (zcpy_ne (by decide))
    refine z_top (congrArg zI he8) ?_
    clear he8
    refine z_iconst C0 dX12_ends_90 ?_
    refine z_iadd C0 dX12_ends_91 ?_
    refine zp_9_6 C0 Wd zN398 zK398 (by have q0 := hz6.1; have p0 := hz6.2; exact zR_mk (by omega) (by omega)) zk_1618 dX12_ends_92 (fun H locs Wd => ?_)
    refine z_iload_n C0 hl 1 rfl dX12_ends_95 ?_
    exact z_iret C0 Wd hret hlk hx0 ⟨rfl, by first | (rw [zpush, if_pos ‹_›]; done) | (rw [zpush, if_neg ‹_›]; done), rfl⟩ dX12_ends_96
  · skip
    refine z_aload_n C0 hl 0 rfl dX12_ends_34 ?_
    refine zg_9_5 C0 Wd zN398 zK398 zk_1617 dX12_ends_35 ?_
    refine z_sipush C0 dX12_ends_38 (by decide) ?_
    refine z_aload_n C0 hl 0 rfl dX12_ends_41 ?_
    refine zg_9_5 C0 Wd zN398 zK398 zk_1617 dX12_ends_42 ?_
    refine z_iconst C0 dX12_ends_45 ?_
    refine z_sipush C0 dX12_ends_46 (by decide) ?_
    refine z_copyi C0 Wd hl.1 zN403 zN403 zK403 zK403 zL403 zL403 (by decide) (by decide) (by omega) (by omega) (by omega) (by omega) (by omega) (by decide) zk_1682 dX12_ends_49 (fun H locs Wd => ?_)
    refine z_aload_n C0 hl 0 rfl dX12_ends_52 ?_
    refine z_dup C0 rfl dX12_ends_53 ?_
    refine zg_9_6 C0 Wd zN398 zK398 zk_1618 dX12_ends_54 ?_
    obtain ⟨he11, hz9⟩ : ((zcpy zM0 403 1496 403 0 10472) 398 6) = (zM0 398 6) ∧ zR (zM0 398 6) := (fun q => ⟨q, q ▸ Wd.rm _ _⟩) (zcpy_ne (by decide))
    refine z_top (congrArg zI he11) ?_
    clear he11
    refine z_iconst C0 dX12_ends_57 ?_
    refine z_isub C0 dX12_ends_58 ?_
    refine zp_9_6 C0 Wd zN398 zK398 (by have q0 := hz9.1; have p0 := hz9.2; exact zR_mk (by omega) (by omega)) zk_1618 dX12_ends_59 (fun H locs Wd => ?_)
    refine z_aload_n C0 hl 0 rfl dX12_ends_62 ?_
    refine zg_9_1 C0 Wd zN398 zK398 zk_1613 dX12_ends_63 ?_
    refine z_iconst C0 dX12_ends_66 ?_
    refine z_aload_n C0 hl 0 rfl dX12_ends_67 ?_
    refine zg_9_5 C0 Wd zN398 zK398 zk_1617 dX12_ends_68 ?_
    refine z_sipush C0 dX12_ends_71 (by decide) ?_
    refine z_aload_n C0 hl 0 rfl dX12_ends_74 ?_
    refine zg_9_6 C0 Wd zN398 zK398 zk_1618 dX12_ends_75 ?_
    obtain ⟨he14, hz12⟩ : ((zu (zcpy zM0 403 1496 403 0 10472) 398 6 ((zM0 398 6) - 1)) 398 6) = ((zM0 398 6) - 1) ∧ zR ((zM0 398 6) - 1) := (fun q => ⟨q, q ▸ Wd.rm _ _⟩) (zu_same _ _ _ _)
    refine z_top (congrArg zI he14) ?_
    clear he14
    refine z_imul C0 dX12_ends_78 ?_
    refine z_sipush C0 dX12_ends_79 (by decide) ?_
    refine z_copyi C0 Wd hl.1 zN400 zN403 zK400 zK403 zL400 zL403 (by decide) (by decide) (by omega) (by omega) (by omega) (by omega) (by omega) (by decide) zk_1682 dX12_ends_82 (fun H locs Wd => ?_)
    refine z_aload_n C0 hl 0 rfl dX12_ends_85 ?_
    refine z_dup C0 rfl dX12_ends_86 ?_
    refine zg_9_6 C0 Wd zN398 zK398 zk_1618 dX12_ends_87 ?_
    obtain ⟨he17, hz15⟩ : ((zcpy (zu (zcpy zM0 403 1496 403 0 10472) 398 6 ((zM0 398 6) - 1)) 400 0 403 (1496 * ((zM0 398 6) - 1)) 1496) 398 6) = ((zM0 398 6) - 1) ∧ zR ((zM0 398 6) - 1) := (fun q => ⟨q, q ▸ Wd.rm _ _⟩) ((zcpy_ne (by decide)).trans (zu_same _ _ _ _))
    refine z_top (congrArg zI he17) ?_
    clear he17
    refine z_iconst C0 dX12_ends_90 ?_
    refine z_iadd C0 dX12_ends_91 ?_
    refine zp_9_6 C0 Wd zN398 zK398 (by have q0 := hz15.1; have p0 := hz15.2; exact zR_mk (by omega) (by omega)) zk_1618 dX12_ends_92 (fun H locs Wd => ?_)
    refine z_iload_n C0 hl 1 rfl dX12_ends_95 ?_
    exact z_iret C0 Wd hret hlk hx0 ⟨rfl, by first | (rw [zpush, if_pos ‹_›]; done) | (rw [zpush, if_neg ‹_›]; done), rfl⟩ dX12_ends_96
theorem kv_X12_doAddChamber : zKV yX12_doAddChamber cX12_doAddChamber 1 (some .int) "DrumWarrenModel" 0 := ⟨zk_1686, zk_1685, zk_25, zk_80, by decide, by decide, by decide +kernel⟩
set_option maxHeartbeats 4000000 in
set_option maxRecDepth 100000 in
theorem ct_X12_doAddChamber (l : Launch) (g : zG) (ad : Int → Nat) (zM0 zF0 : zMem) (h0 : 0 ≤ zM0 399 0 ∧ zM0 399 0 ≤ 8) : zMt l yX12_doAddChamber cX12_doAddChamber 1 (some .int) 1 0 0 g 410 ad [.ref (ad 398)] zM0 zF0 (zPi (fun r M' F' => ((0 < (zdAC (zM0 399)).1) ∧ 0 = r ∧ (zu zM0 398 8 (zdAC (zM0 399)).1) = M' ∧ zF0 = F') ∨ (((zdAC (zM0 399)).1 = 0) ∧ (zdAC (zM0 399)).2.1 = r ∧ (zrow zM0 399 (zdAC (zM0 399)).2.2) = M' ∧ zF0 = F'))) := by
  refine zMt.of "DrumWarrenModel" rfl (by decide) (Nat.le_of_ble_eq_true rfl) (fun {p e s m args below meth c ls} C0 Wd hl hret hlk hin => ?_)
  have hl : lv_has ls 1 [(0, .ref (ad 398))] := hl
  refine z_aload_n C0 hl 0 rfl dX12_doAddChamber_0 ?_
  refine zg_9_0 C0 Wd zN398 zK398 zk_1612 dX12_doAddChamber_1 ?_
  refine z_iconst C0 dX12_doAddChamber_4 ?_
  refine z_iald C0 Wd zN399 zK399 zL399 (by decide) (by decide) (by decide) dX12_doAddChamber_5 ?_
  have hz1 : zR (zM0 399 0) := Wd.rm _ _
  refine z_bipush C0 dX12_doAddChamber_6 (by decide) ?_
  refine z_icmp_ne C0 (tgt := 17) hz1 (zR_mk (by decide) (by decide)) dX12_doAddChamber_8 (by decide) (fun c2 => ?_) (fun c2 => ?_)
  · skip
    refine z_aload_n C0 hl 0 rfl dX12_doAddChamber_17 ?_
    refine zg_9_0 C0 Wd zN398 zK398 zk_1612 dX12_doAddChamber_18 ?_
    refine z_iconst C0 dX12_doAddChamber_21 ?_
    refine z_dup2 C0 rfl rfl dX12_doAddChamber_22 ?_
    refine z_iald C0 Wd zN399 zK399 zL399 (by decide) (by decide) (by decide) dX12_doAddChamber_23 ?_
    have hz3 : zR (zM0 399 0) := Wd.rm _ _
    refine z_iconst C0 dX12_doAddChamber_24 ?_
    refine z_iadd C0 dX12_doAddChamber_25 ?_
    refine z_iast C0 Wd zN399 zK399 zL399 (by decide) (by decide) (by decide) (by have q0 := hz3.1; have p0 := hz3.2; exact zR_mk (by omega) (by omega)) dX12_doAddChamber_26 (fun H locs Wd => ?_)
    replace Wd := zW.mem Wd (show _ = (zrow zM0 399 (zup (zM0 399) 0 ((zM0 399 0) + 1))) from ((zu_c 399 0 ((zM0 399 0) + 1) (zrow_eta zM0 399).symm).trans (zu_zrow zM0 399 (zM0 399) 0 ((zM0 399 0) + 1))))
    refine z_aload_n C0 hl 0 rfl dX12_doAddChamber_27 ?_
    refine zg_9_0 C0 Wd zN398 zK398 zk_1612 dX12_doAddChamber_28 ?_
    refine z_iconst C0 dX12_doAddChamber_31 ?_
    refine z_iald C0 Wd zN399 zK399 zL399 (by decide) (by decide) (by decide) dX12_doAddChamber_32 ?_
    obtain ⟨he6, hz4⟩ : ((zrow zM0 399 (zup (zM0 399) 0 ((zM0 399 0) + 1))) 399 0) = ((zM0 399 0) + 1) ∧ zR ((zM0 399 0) + 1) := (fun q => ⟨q, q ▸ Wd.rm _ _⟩) ((congrFun (zrow_same _ _ _) _).trans (zup_same _ _ _))
    refine z_top (congrArg zI he6) ?_
    clear he6
    refine z_iconst C0 dX12_doAddChamber_33 ?_
    refine z_isub C0 dX12_doAddChamber_34 ?_
    exact z_iret C0 Wd hret hlk (by have q0 := hz4.1; have p0 := hz4.2; exact zR_mk (by omega) (by omega)) (by have e : (zdAC (zM0 399)) = ((0, (((zM0 399 0) + 1) - 1), zup (zM0 399) 0 ((zM0 399 0) + 1)) : zO) := (by unfold zdAC; first | (rw [if_pos (by first | assumption | omega)]; done) | (rw [if_neg (by first | assumption | omega), if_pos (by first | assumption | omega)]; done) | (rw [if_neg (by first | assumption | omega)]; first | done | rfl | (rw [zb_t (by assumption)]; done) | (rw [zb_f (by assumption)]; done)) | (rw [if_neg (by first | assumption | omega), if_neg (by first | assumption | omega), if_pos (by first | assumption | omega)]; done) | (rw [if_neg (by first | assumption | omega), if_neg (by first | assumption | omega)]; first | done | rfl | (rw [zb_t (by assumption)]; done) | (rw [zb_f (by assumption)]; done)) | (rw [if_neg (by first | assumption | omega), if_neg (by first | assumption | omega), if_neg (by first | assumption | omega)]; first | done | rfl | (rw [zb_t (by assumption)]; done) | (rw [zb_f (by assumption)]; done))); rw [e]; exact Or.inr ⟨rfl, rfl, rfl, rfl⟩) dX12_doAddChamber_35
  · skip
    refine z_aload_n C0 hl 0 rfl dX12_doAddChamber_11 ?_
    refine z_iconst C0 dX12_doAddChamber_12 ?_
    refine z_invVi (As := [.int (zI 1)]) (rest := []) C0 Wd (ct_X12_fails l g ad zM0 zF0 1 (zR_mk (by decide) (by decide))) kv_X12_fails zN398 (zE_9 zK398) rfl zk_1687 rfl hl.1 rfl (Nat.le_of_ble_eq_true rfl) (by decide) (by decide) dX12_doAddChamber_13 (fun r7 zMr7 zFr7 H locs hrr7 hp Wd => ?_)
    obtain ⟨rfl, rfl, rfl⟩ := hp
    exact z_iret C0 Wd hret hlk (zR_mk (by decide) (by decide)) (by have e : (zdAC (zM0 399)) = ((1, 0, zM0 399) : zO) := (by unfold zdAC; first | (rw [if_pos (by first | assumption | omega)]; done) | (rw [if_neg (by first | assumption | omega), if_pos (by first | assumption | omega)]; done) | (rw [if_neg (by first | assumption | omega)]; first | done | rfl | (rw [zb_t (by assumption)]; done) | (rw [zb_f (by assumption)]; done)) | (rw [if_neg (by first | assumption | omega), if_neg (by first | assumption | omega), if_pos (by first | assumption | omega)]; done) | (rw [if_neg (by first | assumption | omega), if_neg (by first | assumption | omega)]; first | done | rfl | (rw [zb_t (by assumption)]; done) | (rw [zb_f (by assumption)]; done)) | (rw [if_neg (by first | assumption | omega), if_neg (by first | assumption | omega), if_neg (by first | assumption | omega)]; first | done | rfl | (rw [zb_t (by assumption)]; done) | (rw [zb_f (by assumption)]; done))); rw [e]; exact Or.inl ⟨(by show (0 : Int) < 1; decide), rfl, rfl, rfl⟩) dX12_doAddChamber_16
theorem kv_X12_doAddHare : zKV yX12_doAddHare cX12_doAddHare 4 (some .int) "DrumWarrenModel" 1 := ⟨zk_1784, zk_1783, zk_35, zk_80, by decide, by decide, by decide +kernel⟩
set_option maxHeartbeats 4000000 in
set_option maxRecDepth 100000 in
theorem ct_X12_doAddHare (l : Launch) (g : zG) (ad : Int → Nat) (zM0 zF0 : zMem) (x0 : Int) (hx0 : zR x0) (h0 : 0 ≤ zM0 399 0 ∧ zM0 399 0 ≤ 8) (h1 : 0 ≤ zM0 399 1 ∧ zM0 399 1 ≤ 6) : zMt l yX12_doAddHare cX12_doAddHare 4 (some .int) 2 0 0 g 410 ad [.ref (ad 398), .int (zI x0)] zM0 zF0 (zPi (fun r M' F' => ((0 < (zdAH x0 (zM0 399)).1) ∧ 0 = r ∧ (zu zM0 398 8 (zdAH x0 (zM0 399)).1) = M' ∧ zF0 = F') ∨ (((zdAH x0 (zM0 399)).1 = 0) ∧ (zdAH x0 (zM0 399)).2.1 = r ∧ (zrow zM0 399 (zdAH x0 (zM0 399)).2.2) = M' ∧ zF0 = F'))) := by
  refine zMt.of "DrumWarrenModel" rfl (by decide) (Nat.le_of_ble_eq_true rfl) (fun {p e s m args below meth c ls} C0 Wd hl hret hlk hin => ?_)
  have hl : lv_has ls 4 [(0, .ref (ad 398)), (1, .int (zI x0))] := hl
  refine z_aload_n C0 hl 0 rfl dX12_doAddHare_0 ?_
  refine zg_9_0 C0 Wd zN398 zK398 zk_1612 dX12_doAddHare_1 ?_
  refine z_iconst C0 dX12_doAddHare_4 ?_
  refine z_iald C0 Wd zN399 zK399 zL399 (by decide) (by decide) (by decide) dX12_doAddHare_5 ?_
  have hz1 : zR (zM0 399 1) := Wd.rm _ _
  refine z_istore_n C0 hl [(2, .int (zI (zM0 399 1))), (0, .ref (ad 398)), (1, .int (zI x0))] (by decide) rfl dX12_doAddHare_6 (fun ls hl => ?_)
  refine z_aload_n C0 hl 1 rfl dX12_doAddHare_7 ?_
  refine z_iload_n C0 hl 2 rfl dX12_doAddHare_8 ?_
  refine z_invVi (As := [.int (zI x0)]) (rest := []) C0 Wd (ct_X12_isChamber l g ad zM0 zF0 x0 hx0 (by omega)) kv_X12_isChamber zN398 (zE_9 zK398) rfl zk_1703 rfl hl.1 rfl (Nat.le_of_ble_eq_true rfl) (by decide) (by decide) dX12_doAddHare_9 (fun r2 zMr2 zFr2 H locs hrr2 hp Wd => ?_)
  obtain ⟨rfl, rfl, rfl⟩ := hp
  refine z_if_ne_b C0 (tgt := 21) dX12_doAddHare_12 (by decide) (fun c4 => ?_) (fun c4 => ?_)
  · skip
    refine z_iload_n C0 hl 0 rfl dX12_doAddHare_21 ?_
    refine z_bipush C0 dX12_doAddHare_22 (by decide) ?_
    refine z_icmp_ne C0 (tgt := 33) hz1 (zR_mk (by decide) (by decide)) dX12_doAddHare_24 (by decide) (fun c5 => ?_) (fun c5 => ?_)
    · skip
      refine z_bipush C0 dX12_doAddHare_33 (by decide) ?_
      refine z_iconst C0 dX12_doAddHare_35 ?_
      refine z_iload_n C0 hl 0 rfl dX12_doAddHare_36 ?_
      refine z_imul C0 dX12_doAddHare_37 ?_
      refine z_iadd C0 dX12_doAddHare_38 ?_
      refine z_istore_n C0 hl [(3, .int (zI (72 + (4 * (zM0 399 1))))), (2, .int (zI (zM0 399 1))), (0, .ref (ad 398)), (1, .int (zI x0))] (by decide) rfl dX12_doAddHare_39 (fun ls hl => ?_)
      refine z_aload_n C0 hl 2 rfl dX12_doAddHare_40 ?_
      refine zg_9_0 C0 Wd zN398 zK398 zk_1612 dX12_doAddHare_41 ?_
      refine z_iload_n C0 hl 0 rfl dX12_doAddHare_44 ?_
      refine z_iload_n C0 hl 3 rfl dX12_doAddHare_45 ?_
      refine z_iast C0 Wd zN399 zK399 zL399 (by omega) (by omega) (by decide) hx0 dX12_doAddHare_46 (fun H locs Wd => ?_)
      replace Wd := zW.mem Wd (show _ = (zrow zM0 399 (zup (zM0 399) (72 + (4 * (zM0 399 1))) x0)) from ((zu_c 399 (72 + (4 * (zM0 399 1))) x0 (zrow_eta zM0 399).symm).trans (zu_zrow zM0 399 (zM0 399) (72 + (4 * (zM0 399 1))) x0)))
      refine z_aload_n C0 hl 2 rfl dX12_doAddHare_47 ?_
      refine zg_9_0 C0 Wd zN398 zK398 zk_1612 dX12_doAddHare_48 ?_
      refine z_iload_n C0 hl 0 rfl dX12_doAddHare_51 ?_
      refine z_iconst C0 dX12_doAddHare_52 ?_
      refine z_iadd C0 dX12_doAddHare_53 ?_
      refine z_iconst C0 dX12_doAddHare_54 ?_
      refine z_iast C0 Wd zN399 zK399 zL399 (by omega) (by omega) (by decide) (zR_mk (by decide) (by decide)) dX12_doAddHare_55 (fun H locs Wd => ?_)
      replace Wd := zW.mem Wd (show _ = (zrow zM0 399 (zup (zup (zM0 399) (72 + (4 * (zM0 399 1))) x0) ((72 + (4 * (zM0 399 1))) + 1) 1)) from (zu_zrow zM0 399 (zup (zM0 399) (72 + (4 * (zM0 399 1))) x0) ((72 + (4 * (zM0 399 1))) + 1) 1))
      refine z_aload_n C0 hl 2 rfl dX12_doAddHare_56 ?_
      refine zg_9_0 C0 Wd zN398 zK398 zk_1612 dX12_doAddHare_57 ?_
      refine z_iload_n C0 hl 0 rfl dX12_doAddHare_60 ?_
      refine z_iconst C0 dX12_doAddHare_61 ?_
      refine z_iadd C0 dX12_doAddHare_62 ?_
      refine z_iconst C0 dX12_doAddHare_63 ?_
      refine z_iast C0 Wd zN399 zK399 zL399 (by omega) (by omega) (by decide) (zR_mk (by decide) (by decide)) dX12_doAddHare_64 (fun H locs Wd => ?_)
      replace Wd := zW.mem Wd (show _ = (zrow zM0 399 (zup (zup (zup (zM0 399) (72 + (4 * (zM0 399 1))) x0) ((72 + (4 * (zM0 399 1))) + 1) 1) ((72 + (4 * (zM0 399 1))) + 2) 0)) from (zu_zrow zM0 399 (zup (zup (zM0 399) (72 + (4 * (zM0 399 1))) x0) ((72 + (4 * (zM0 399 1))) + 1) 1) ((72 + (4 * (zM0 399 1))) + 2) 0))
      refine z_aload_n C0 hl 2 rfl dX12_doAddHare_65 ?_
      refine zg_9_0 C0 Wd zN398 zK398 zk_1612 dX12_doAddHare_66 ?_
      refine z_iload_n C0 hl 0 rfl dX12_doAddHare_69 ?_
      refine z_iconst C0 dX12_doAddHare_70 ?_
      refine z_iadd C0 dX12_doAddHare_71 ?_
      refine z_iconst C0 dX12_doAddHare_72 ?_
      refine z_iast C0 Wd zN399 zK399 zL399 (by omega) (by omega) (by decide) (zR_mk (by decide) (by decide)) dX12_doAddHare_73 (fun H locs Wd => ?_)
      replace Wd := zW.mem Wd (show _ = (zrow zM0 399 (zup (zup (zup (zup (zM0 399) (72 + (4 * (zM0 399 1))) x0) ((72 + (4 * (zM0 399 1))) + 1) 1) ((72 + (4 * (zM0 399 1))) + 2) 0) ((72 + (4 * (zM0 399 1))) + 3) 0)) from (zu_zrow zM0 399 (zup (zup (zup (zM0 399) (72 + (4 * (zM0 399 1))) x0) ((72 + (4 * (zM0 399 1))) + 1) 1) ((72 + (4 * (zM0 399 1))) + 2) 0) ((72 + (4 * (zM0 399 1))) + 3) 0))
      refine z_aload_n C0 hl 2 rfl dX12_doAddHare_74 ?_
      refine zg_9_0 C0 Wd zN398 zK398 zk_1612 dX12_doAddHare_75 ?_
      refine z_iconst C0 dX12_doAddHare_78 ?_
      refine z_dup2 C0 rfl rfl dX12_doAddHare_79 ?_
      refine z_iald C0 Wd zN399 zK399 zL399 (by decide) (by decide) (by decide) dX12_doAddHare_80 ?_
      obtain ⟨he8, hz6⟩ : ((zrow zM0 399 (zup (zup (zup (zup (zM0 399) (72 + (4 * (zM0 399 1))) x0) ((72 + (4 * (zM0 399 1))) + 1) 1) ((72 + (4 * (zM0 399 1))) + 2) 0) ((72 + (4 * (zM0 399 1))) + 3) 0)) 399 1) = ((zM0 399) 1) ∧ zR ((zM0 399) 1) := (fun q => ⟨q, q ▸ Wd.rm _ _⟩) ((congrFun (zrow_same _ _ _) _).trans ((zup_ne (by omega)).trans ((zup_ne (by omega)).trans ((zup_ne (by omega)).trans (zup_ne (by omega))))))
      refine z_top (congrArg zI he8) ?_
      clear he8
      refine z_iconst C0 dX12_doAddHare_81 ?_
      refine z_iadd C0 dX12_doAddHare_82 ?_
      refine z_iast C0 Wd zN399 zK399 zL399 (by decide) (by decide) (by decide) (by have q0 := hz6.1; have p0 := hz6.2; exact zR_mk (by omega) (by omega)) dX12_doAddHare_83 (fun H locs Wd => ?_)
      replace Wd := zW.mem Wd (show _ = (zrow zM0 399 (zup (zup (zup (zup (zup (zM0 399) (72 + (4 * (zM0 399 1))) x0) ((72 + (4 * (zM0 399 1))) + 1) 1) ((72 + (4 * (zM0 399 1))) + 2) 0) ((72 + (4 * (zM0 399 1))) + 3) 0) 1 (((zM0 399) 1) + 1))) from (zu_zrow zM0 399 (zup (zup (zup (zup (zM0 399) (72 + (4 * (zM0 399 1))) x0) ((72 + (4 * (zM0 399 1))) + 1) 1) ((72 + (4 * (zM0 399 1))) + 2) 0) ((72 + (4 * (zM0 399 1))) + 3) 0) 1 (((zM0 399) 1) + 1)))
      refine z_iload_n C0 hl 1 rfl dX12_doAddHare_84 ?_
      exact z_iret C0 Wd hret hlk hz1 (by have e : (zdAH x0 (zM0 399)) = ((0, (zM0 399 1), zup (zup (zup (zup (zup (zM0 399) (72 + (4 * (zM0 399 1))) x0) ((72 + (4 * (zM0 399 1))) + 1) 1) ((72 + (4 * (zM0 399 1))) + 2) 0) ((72 + (4 * (zM0 399 1))) + 3) 0) 1 (((zM0 399) 1) + 1)) : zO) := (by unfold zdAH; first | (rw [if_pos (by first | assumption | omega)]; done) | (rw [if_neg (by first | assumption | omega), if_pos (by first | assumption | omega)]; done) | (rw [if_neg (by first | assumption | omega)]; first | done | rfl | (rw [zb_t (by assumption)]; done) | (rw [zb_f (by assumption)]; done)) | (rw [if_neg (by first | assumption | omega), if_neg (by first | assumption | omega), if_pos (by first | assumption | omega)]; done) | (rw [if_neg (by first | assumption | omega), if_neg (by first | assumption | omega)]; first | done | rfl | (rw [zb_t (by assumption)]; done) | (rw [zb_f (by assumption)]; done)) | (rw [if_neg (by first | assumption | omega), if_neg (by first | assumption | omega), if_neg (by first | assumption | omega)]; first | done | rfl | (rw [zb_t (by assumption)]; done) | (rw [zb_f (by assumption)]; done))); rw [e]; exact Or.inr ⟨rfl, rfl, rfl, rfl⟩) dX12_doAddHare_85
    · skip
      refine z_aload_n C0 hl 1 rfl dX12_doAddHare_27 ?_
      refine z_iconst C0 dX12_doAddHare_28 ?_
      refine z_invVi (As := [.int (zI 2)]) (rest := []) C0 Wd (ct_X12_fails l g ad zM0 zF0 2 (zR_mk (by decide) (by decide))) kv_X12_fails zN398 (zE_9 zK398) rfl zk_1687 rfl hl.1 rfl (Nat.le_of_ble_eq_true rfl) (by decide) (by decide) dX12_doAddHare_29 (fun r9 zMr9 zFr9 H locs hrr9 hp Wd => ?_)
      obtain ⟨rfl, rfl, rfl⟩ := hp
      exact z_iret C0 Wd hret hlk (zR_mk (by decide) (by decide)) (by have e : (zdAH x0 (zM0 399)) = ((2, 0, zM0 399) : zO) := (by unfold zdAH; first | (rw [if_pos (by first | assumption | omega)]; done) | (rw [if_neg (by first | assumption | omega), if_pos (by first | assumption | omega)]; done) | (rw [if_neg (by first | assumption | omega)]; first | done | rfl | (rw [zb_t (by assumption)]; done) | (rw [zb_f (by assumption)]; done)) | (rw [if_neg (by first | assumption | omega), if_neg (by first | assumption | omega), if_pos (by first | assumption | omega)]; done) | (rw [if_neg (by first | assumption | omega), if_neg (by first | assumption | omega)]; first | done | rfl | (rw [zb_t (by assumption)]; done) | (rw [zb_f (by assumption)]; done)) | (rw [if_neg (by first | assumption | omega), if_neg (by first | assumption | omega), if_neg (by first | assumption | omega)]; first | done | rfl | (rw [zb_t (by assumption)]; done) | (rw [zb_f (by assumption)]; done))); rw [e]; exact Or.inl ⟨(by show (0 : Int) < 2; decide), rfl, rfl, rfl⟩) dX12_doAddHare_32
  · skip
    refine z_aload_n C0 hl 1 rfl dX12_doAddHare_15 ?_
    refine z_iconst C0 dX12_doAddHare_16 ?_
    refine z_invVi (As := [.int (zI 1)]) (rest := []) C0 Wd (ct_X12_fails l g ad zM0 zF0 1 (zR_mk (by decide) (by decide))) kv_X12_fails zN398 (zE_9 zK398) rfl zk_1687 rfl hl.1 rfl (Nat.le_of_ble_eq_true rfl) (by decide) (by decide) dX12_doAddHare_17 (fun r11 zMr11 zFr11 H locs hrr11 hp Wd => ?_)
    obtain ⟨rfl, rfl, rfl⟩ := hp
    exact z_iret C0 Wd hret hlk (zR_mk (by decide) (by decide)) (by have e : (zdAH x0 (zM0 399)) = ((1, 0, zM0 399) : zO) := (by unfold zdAH; first | (rw [if_pos (by first | assumption | omega)]; done) | (rw [if_neg (by first | assumption | omega), if_pos (by first | assumption | omega)]; done) | (rw [if_neg (by first | assumption | omega)]; first | done | rfl | (rw [zb_t (by assumption)]; done) | (rw [zb_f (by assumption)]; done)) | (rw [if_neg (by first | assumption | omega), if_neg (by first | assumption | omega), if_pos (by first | assumption | omega)]; done) | (rw [if_neg (by first | assumption | omega), if_neg (by first | assumption | omega)]; first | done | rfl | (rw [zb_t (by assumption)]; done) | (rw [zb_f (by assumption)]; done)) | (rw [if_neg (by first | assumption | omega), if_neg (by first | assumption | omega), if_neg (by first | assumption | omega)]; first | done | rfl | (rw [zb_t (by assumption)]; done) | (rw [zb_f (by assumption)]; done))); rw [e]; exact Or.inl ⟨(by show (0 : Int) < 1; decide), rfl, rfl, rfl⟩) dX12_doAddHare_20
theorem kv_X12_doListen : zKV yX12_doListen cX12_doListen 4 (some .int) "DrumWarrenModel" 2 := ⟨zk_1816, zk_1815, zk_41, zk_80, by decide, by decide, by decide +kernel⟩
set_option maxHeartbeats 4000000 in
set_option maxRecDepth 100000 in
theorem ct_X12_doListen (l : Launch) (g : zG) (ad : Int → Nat) (zM0 zF0 : zMem) (x0 : Int) (hx0 : zR x0) (P : Prop) [Decidable P] (h1 : 0 ≤ zM0 399 1 ∧ zM0 399 1 ≤ 6) : zMt l yX12_doListen cX12_doListen 4 (some .int) 2 0 0 g 410 ad [.ref (ad 398), .int (zI x0), .int (zI (zb P))] zM0 zF0 (zPi (fun r M' F' => ((0 < (zdLi x0 (P) (zM0 399)).1) ∧ 0 = r ∧ (zu zM0 398 8 (zdLi x0 (P) (zM0 399)).1) = M' ∧ zF0 = F') ∨ (((zdLi x0 (P) (zM0 399)).1 = 0) ∧ (zdLi x0 (P) (zM0 399)).2.1 = r ∧ (zrow zM0 399 (zdLi x0 (P) (zM0 399)).2.2) = M' ∧ zF0 = F'))) := by
  refine zMt.of "DrumWarrenModel" rfl (by decide) (Nat.le_of_ble_eq_true rfl) (fun {p e s m args below meth c ls} C0 Wd hl hret hlk hin => ?_)
  have hl : lv_has ls 4 [(0, .ref (ad 398)), (1, .int (zI x0)), (2, .int (zI (zb (P))))] := hl
  refine z_aload_n C0 hl 0 rfl dX12_doListen_0 ?_
  refine z_iload_n C0 hl 1 rfl dX12_doListen_1 ?_
  refine z_invVi (As := [.int (zI x0)]) (rest := []) C0 Wd (ct_X12_isHare l g ad zM0 zF0 x0 hx0 (by omega)) kv_X12_isHare zN398 (zE_9 zK398) rfl zk_1793 rfl hl.1 rfl (Nat.le_of_ble_eq_true rfl) (by decide) (by decide) dX12_doListen_2 (fun r1 zMr1 zFr1 H locs hrr1 hp Wd => ?_)
  obtain ⟨rfl, rfl, rfl⟩ := hp
  refine z_if_ne_b C0 (tgt := 14) dX12_doListen_5 (by decide) (fun c3 => ?_) (fun c3 => ?_)
  · skip
    refine z_aload_n C0 hl 0 rfl dX12_doListen_14 ?_
    refine z_iload_n C0 hl 1 rfl dX12_doListen_15 ?_
    refine z_iconst C0 dX12_doListen_16 ?_
    refine z_invVi (As := [.int (zI x0), .int (zI 1)]) (rest := []) C0 Wd (ct_X12_hare l g ad zM0 zF0 x0 hx0 1 (zR_mk (by decide) (by decide)) (by omega)) kv_X12_hare zN398 (zE_9 zK398) rfl zk_1805 rfl hl.1 rfl (Nat.le_of_ble_eq_true rfl) (by decide) (by decide) dX12_doListen_17 (fun r4 zMr4 zFr4 H locs hrr4 hp Wd => ?_)
    obtain ⟨rfl, rfl, rfl⟩ := hp
    refine z_istore_n C0 hl [(3, .int (zI (zM0 399 (72 + 4 * x0 + 1)))), (0, .ref (ad 398)), (1, .int (zI x0)), (2, .int (zI (zb (P))))] (by decide) rfl dX12_doListen_20 (fun ls hl => ?_)
    refine z_aload_n C0 hl 1 rfl dX12_doListen_21 ?_
    refine zg_9_0 C0 Wd zN398 zK398 zk_1612 dX12_doListen_22 ?_
    refine z_bipush C0 dX12_doListen_25 (by decide) ?_
    refine z_iconst C0 dX12_doListen_27 ?_
    refine z_iload_n C0 hl 2 rfl dX12_doListen_28 ?_
    refine z_imul C0 dX12_doListen_29 ?_
    refine z_iadd C0 dX12_doListen_30 ?_
    refine z_iconst C0 dX12_doListen_31 ?_
    refine z_iadd C0 dX12_doListen_32 ?_
    refine z_iload_n C0 hl 3 rfl dX12_doListen_33 ?_
    refine z_if_eq_b C0 (tgt := 41) dX12_doListen_34 (by decide) (fun c6 => ?_) (fun c6 => ?_)
    · skip
      refine z_iconst C0 dX12_doListen_41 ?_
      refine z_iast C0 Wd zN399 zK399 zL399 (by omega) (by omega) (by decide) (zR_mk (by decide) (by decide)) dX12_doListen_42 (fun H locs Wd => ?_)
      replace Wd := zW.mem Wd (show _ = (zrow zM0 399 (zup (zM0 399) ((72 + (4 * x0)) + 1) 0)) from ((zu_c 399 ((72 + (4 * x0)) + 1) 0 (zrow_eta zM0 399).symm).trans (zu_zrow zM0 399 (zM0 399) ((72 + (4 * x0)) + 1) 0)))
      refine z_iload_n C0 hl 0 rfl dX12_doListen_43 ?_
      exact z_iret C0 Wd hret hlk hrr4 (by have e : (zdLi x0 (P) (zM0 399)) = ((0, (zM0 399 (72 + 4 * x0 + 1)), zup (zM0 399) ((72 + (4 * x0)) + 1) 0) : zO) := (by unfold zdLi; first | (rw [if_pos (by first | assumption | omega)]; done) | (rw [if_neg (by first | assumption | omega), if_pos (by first | assumption | omega)]; done) | (rw [if_neg (by first | assumption | omega)]; first | done | rfl | (rw [zb_t (by assumption)]; done) | (rw [zb_f (by assumption)]; done)) | (rw [if_neg (by first | assumption | omega), if_neg (by first | assumption | omega), if_pos (by first | assumption | omega)]; done) | (rw [if_neg (by first | assumption | omega), if_neg (by first | assumption | omega)]; first | done | rfl | (rw [zb_t (by assumption)]; done) | (rw [zb_f (by assumption)]; done)) | (rw [if_neg (by first | assumption | omega), if_neg (by first | assumption | omega), if_neg (by first | assumption | omega)]; first | done | rfl | (rw [zb_t (by assumption)]; done) | (rw [zb_f (by assumption)]; done))); rw [e]; exact Or.inr ⟨rfl, rfl, rfl, rfl⟩) dX12_doListen_44
    · skip
      refine z_iconst C0 dX12_doListen_37 ?_
      refine z_goto C0 (tgt := 42) dX12_doListen_38 (by decide) ?_
      refine z_iast C0 Wd zN399 zK399 zL399 (by omega) (by omega) (by decide) (zR_mk (by decide) (by decide)) dX12_doListen_42 (fun H locs Wd => ?_)
      replace Wd := zW.mem Wd (show _ = (zrow zM0 399 (zup (zM0 399) ((72 + (4 * x0)) + 1) 1)) from ((zu_c 399 ((72 + (4 * x0)) + 1) 1 (zrow_eta zM0 399).symm).trans (zu_zrow zM0 399 (zM0 399) ((72 + (4 * x0)) + 1) 1)))
      refine z_iload_n C0 hl 0 rfl dX12_doListen_43 ?_
      exact z_iret C0 Wd hret hlk hrr4 (by have e : (zdLi x0 (P) (zM0 399)) = ((0, (zM0 399 (72 + 4 * x0 + 1)), zup (zM0 399) ((72 + (4 * x0)) + 1) 1) : zO) := (by unfold zdLi; first | (rw [if_pos (by first | assumption | omega)]; done) | (rw [if_neg (by first | assumption | omega), if_pos (by first | assumption | omega)]; done) | (rw [if_neg (by first | assumption | omega)]; first | done | rfl | (rw [zb_t (by assumption)]; done) | (rw [zb_f (by assumption)]; done)) | (rw [if_neg (by first | assumption | omega), if_neg (by first | assumption | omega), if_pos (by first | assumption | omega)]; done) | (rw [if_neg (by first | assumption | omega), if_neg (by first | assumption | omega)]; first | done | rfl | (rw [zb_t (by assumption)]; done) | (rw [zb_f (by assumption)]; done)) | (rw [if_neg (by first | assumption | omega), if_neg (by first | assumption | omega), if_neg (by first | assumption | omega)]; first | done | rfl | (rw [zb_t (by assumption)]; done) | (rw [zb_f (by assumption)]; done))); rw [e]; exact Or.inr ⟨rfl, rfl, rfl, rfl⟩) dX12_doListen_44
  · skip
    refine z_aload_n C0 hl 0 rfl dX12_doListen_8 ?_
    refine z_iconst C0 dX12_doListen_9 ?_
    refine z_invVi (As := [.int (zI 1)]) (rest := []) C0 Wd (ct_X12_fails l g ad zM0 zF0 1 (zR_mk (by decide) (by decide))) kv_X12_fails zN398 (zE_9 zK398) rfl zk_1687 rfl hl.1 rfl (Nat.le_of_ble_eq_true rfl) (by decide) (by decide) dX12_doListen_10 (fun r7 zMr7 zFr7 H locs hrr7 hp Wd => ?_)
    obtain ⟨rfl, rfl, rfl⟩ := hp
    exact z_iret C0 Wd hret hlk (zR_mk (by decide) (by decide)) (by have e : (zdLi x0 (P) (zM0 399)) = ((1, 0, zM0 399) : zO) := (by unfold zdLi; first | (rw [if_pos (by first | assumption | omega)]; done) | (rw [if_neg (by first | assumption | omega), if_pos (by first | assumption | omega)]; done) | (rw [if_neg (by first | assumption | omega)]; first | done | rfl | (rw [zb_t (by assumption)]; done) | (rw [zb_f (by assumption)]; done)) | (rw [if_neg (by first | assumption | omega), if_neg (by first | assumption | omega), if_pos (by first | assumption | omega)]; done) | (rw [if_neg (by first | assumption | omega), if_neg (by first | assumption | omega)]; first | done | rfl | (rw [zb_t (by assumption)]; done) | (rw [zb_f (by assumption)]; done)) | (rw [if_neg (by first | assumption | omega), if_neg (by first | assumption | omega), if_neg (by first | assumption | omega)]; first | done | rfl | (rw [zb_t (by assumption)]; done) | (rw [zb_f (by assumption)]; done))); rw [e]; exact Or.inl ⟨(by show (0 : Int) < 1; decide), rfl, rfl, rfl⟩) dX12_doListen_13
theorem kv_X12_doRemoveTunnel : zKV yX12_doRemoveTunnel cX12_doRemoveTunnel 4 (some .int) "DrumWarrenModel" 2 := ⟨zk_1724, zk_1723, zk_31, zk_80, by decide, by decide, by decide +kernel⟩
set_option maxHeartbeats 4000000 in
set_option maxRecDepth 100000 in
theorem ct_X12_doRemoveTunnel (l : Launch) (g : zG) (ad : Int → Nat) (zM0 zF0 : zMem) (x0 : Int) (hx0 : zR x0) (x1 : Int) (hx1 : zR x1) (h0 : 0 ≤ zM0 399 0 ∧ zM0 399 0 ≤ 8) : zMt l yX12_doRemoveTunnel cX12_doRemoveTunnel 4 (some .int) 2 0 0 g 410 ad [.ref (ad 398), .int (zI x0), .int (zI x1)] zM0 zF0 (zPi (fun r M' F' => ((0 < (zdRT x0 x1 (zM0 399)).1) ∧ 0 = r ∧ (zu zM0 398 8 (zdRT x0 x1 (zM0 399)).1) = M' ∧ zF0 = F') ∨ (((zdRT x0 x1 (zM0 399)).1 = 0) ∧ (zdRT x0 x1 (zM0 399)).2.1 = r ∧ (zrow zM0 399 (zdRT x0 x1 (zM0 399)).2.2) = M' ∧ zF0 = F'))) := by
  refine zMt.of "DrumWarrenModel" rfl (by decide) (Nat.le_of_ble_eq_true rfl) (fun {p e s m args below meth c ls} C0 Wd hl hret hlk hin => ?_)
  have hl : lv_has ls 4 [(0, .ref (ad 398)), (1, .int (zI x0)), (2, .int (zI x1))] := hl
  refine z_aload_n C0 hl 0 rfl dX12_doRemoveTunnel_0 ?_
  refine z_iload_n C0 hl 1 rfl dX12_doRemoveTunnel_1 ?_
  refine z_invVi (As := [.int (zI x0)]) (rest := []) C0 Wd (ct_X12_isChamber l g ad zM0 zF0 x0 hx0 (by omega)) kv_X12_isChamber zN398 (zE_9 zK398) rfl zk_1703 rfl hl.1 rfl (Nat.le_of_ble_eq_true rfl) (by decide) (by decide) dX12_doRemoveTunnel_2 (fun r1 zMr1 zFr1 H locs hrr1 hp Wd => ?_)
  obtain ⟨rfl, rfl, rfl⟩ := hp
  refine z_if_eq_b C0 (tgt := 16) dX12_doRemoveTunnel_5 (by decide) (fun c3 => ?_) (fun c3 => ?_)
  · skip
    refine z_aload_n C0 hl 0 rfl dX12_doRemoveTunnel_16 ?_
    refine z_iconst C0 dX12_doRemoveTunnel_17 ?_
    refine z_invVi (As := [.int (zI 1)]) (rest := []) C0 Wd (ct_X12_fails l g ad zM0 zF0 1 (zR_mk (by decide) (by decide))) kv_X12_fails zN398 (zE_9 zK398) rfl zk_1687 rfl hl.1 rfl (Nat.le_of_ble_eq_true rfl) (by decide) (by decide) dX12_doRemoveTunnel_18 (fun r4 zMr4 zFr4 H locs hrr4 hp Wd => ?_)
    obtain ⟨rfl, rfl, rfl⟩ := hp
    exact z_iret C0 Wd hret hlk (zR_mk (by decide) (by decide)) (by have e : (zdRT x0 x1 (zM0 399)) = ((1, 0, zM0 399) : zO) := (by unfold zdRT; first | (rw [if_pos (by first | assumption | omega)]; done) | (rw [if_neg (by first | assumption | omega), if_pos (by first | assumption | omega)]; done) | (rw [if_neg (by first | assumption | omega)]; first | done | rfl | (rw [zb_t (by assumption)]; done) | (rw [zb_f (by assumption)]; done)) | (rw [if_neg (by first | assumption | omega), if_neg (by first | assumption | omega), if_pos (by first | assumption | omega)]; done) | (rw [if_neg (by first | assumption | omega), if_neg (by first | assumption | omega)]; first | done | rfl | (rw [zb_t (by assumption)]; done) | (rw [zb_f (by assumption)]; done)) | (rw [if_neg (by first | assumption | omega), if_neg (by first | assumption | omega), if_neg (by first | assumption | omega)]; first | done | rfl | (rw [zb_t (by assumption)]; done) | (rw [zb_f (by assumption)]; done))); rw [e]; exact Or.inl ⟨(by show (0 : Int) < 1; decide), rfl, rfl, rfl⟩) dX12_doRemoveTunnel_21
  · skip
    refine z_aload_n C0 hl 0 rfl dX12_doRemoveTunnel_8 ?_
    refine z_iload_n C0 hl 2 rfl dX12_doRemoveTunnel_9 ?_
    refine z_invVi (As := [.int (zI x1)]) (rest := []) C0 Wd (ct_X12_isChamber l g ad zM0 zF0 x1 hx1 (by omega)) kv_X12_isChamber zN398 (zE_9 zK398) rfl zk_1703 rfl hl.1 rfl (Nat.le_of_ble_eq_true rfl) (by decide) (by decide) dX12_doRemoveTunnel_10 (fun r6 zMr6 zFr6 H locs hrr6 hp Wd => ?_)
    obtain ⟨rfl, rfl, rfl⟩ := hp
    refine z_if_ne_b C0 (tgt := 22) dX12_doRemoveTunnel_13 (by decide) (fun c8 => ?_) (fun c8 => ?_)
    · skip
      refine z_aload_n C0 hl 0 rfl dX12_doRemoveTunnel_22 ?_
      refine zg_9_0 C0 Wd zN398 zK398 zk_1612 dX12_doRemoveTunnel_23 ?_
      refine z_iload_n C0 hl 1 rfl dX12_doRemoveTunnel_26 ?_
      refine z_iload_n C0 hl 2 rfl dX12_doRemoveTunnel_27 ?_
      refine z_invSi (As := [.int (zI x0), .int (zI x1)]) (rest := [.ref (ad 399)]) C0 Wd (ct_X12_tunnel l g ad zM0 zF0 x0 hx0 x1 hx1 (by omega)) kv_X12_tunnel zk_1710 rfl hl.1 rfl (Nat.le_of_ble_eq_true rfl) (by decide) (by decide) dX12_doRemoveTunnel_28 (fun r9 zMr9 zFr9 H locs hrr9 hp Wd => ?_)
      obtain ⟨rfl, rfl, rfl⟩ := hp
      refine z_iald C0 Wd zN399 zK399 zL399 (by omega) (by omega) (by decide) dX12_doRemoveTunnel_31 ?_
      have hz11 : zR (zM0 399 (8 + 8 * x0 + x1)) := Wd.rm _ _
      refine z_istore_n C0 hl [(3, .int (zI (zM0 399 (8 + 8 * x0 + x1)))), (0, .ref (ad 398)), (1, .int (zI x0)), (2, .int (zI x1))] (by decide) rfl dX12_doRemoveTunnel_32 (fun ls hl => ?_)
      refine z_iload_n C0 hl 0 rfl dX12_doRemoveTunnel_33 ?_
      refine z_if_ne C0 (tgt := 43) hz11 dX12_doRemoveTunnel_34 (by decide) (fun c12 => ?_) (fun c12 => ?_)
      · skip
        refine z_aload_n C0 hl 1 rfl dX12_doRemoveTunnel_43 ?_
        refine zg_9_0 C0 Wd zN398 zK398 zk_1612 dX12_doRemoveTunnel_44 ?_
        refine z_iload_n C0 hl 2 rfl dX12_doRemoveTunnel_47 ?_
        refine z_iload_n C0 hl 3 rfl dX12_doRemoveTunnel_48 ?_
        refine z_invSi (As := [.int (zI x0), .int (zI x1)]) (rest := [.ref (ad 399)]) C0 Wd (ct_X12_tunnel l g ad zM0 zF0 x0 hx0 x1 hx1 (by omega)) kv_X12_tunnel zk_1710 rfl hl.1 rfl (Nat.le_of_ble_eq_true rfl) (by decide) (by decide) dX12_doRemoveTunnel_49 (fun r13 zMr13 zFr13 H locs hrr13 hp Wd => ?_)
        obtain ⟨rfl, rfl, rfl⟩ := hp
        refine z_iconst C0 dX12_doRemoveTunnel_52 ?_
        refine z_iast C0 Wd zN399 zK399 zL399 (by omega) (by omega) (by decide) (zR_mk (by decide) (by decide)) dX12_doRemoveTunnel_53 (fun H locs Wd => ?_)
        replace Wd := zW.mem Wd (show _ = (zrow zM0 399 (zup (zM0 399) (8 + 8 * x0 + x1) 0)) from ((zu_c 399 (8 + 8 * x0 + x1) 0 (zrow_eta zM0 399).symm).trans (zu_zrow zM0 399 (zM0 399) (8 + 8 * x0 + x1) 0)))
        refine z_aload_n C0 hl 1 rfl dX12_doRemoveTunnel_54 ?_
        refine zg_9_0 C0 Wd zN398 zK398 zk_1612 dX12_doRemoveTunnel_55 ?_
        refine z_iload_n C0 hl 3 rfl dX12_doRemoveTunnel_58 ?_
        refine z_iload_n C0 hl 2 rfl dX12_doRemoveTunnel_59 ?_
        refine z_invSi (As := [.int (zI x1), .int (zI x0)]) (rest := [.ref (ad 399)]) C0 Wd (ct_X12_tunnel l g ad (zrow zM0 399 (zup (zM0 399) (8 + 8 * x0 + x1) 0)) zF0 x1 hx1 x0 hx0 (by omega)) kv_X12_tunnel zk_1710 rfl hl.1 rfl (Nat.le_of_ble_eq_true rfl) (by decide) (by decide) dX12_doRemoveTunnel_60 (fun r15 zMr15 zFr15 H locs hrr15 hp Wd => ?_)
        obtain ⟨rfl, rfl, rfl⟩ := hp
        refine z_iconst C0 dX12_doRemoveTunnel_63 ?_
        refine z_iast C0 Wd zN399 zK399 zL399 (by omega) (by omega) (by decide) (zR_mk (by decide) (by decide)) dX12_doRemoveTunnel_64 (fun H locs Wd => ?_)
        replace Wd := zW.mem Wd (show _ = (zrow zM0 399 (zup (zup (zM0 399) (8 + 8 * x0 + x1) 0) (8 + 8 * x1 + x0) 0)) from (zu_zrow zM0 399 (zup (zM0 399) (8 + 8 * x0 + x1) 0) (8 + 8 * x1 + x0) 0))
        refine z_iload_n C0 hl 0 rfl dX12_doRemoveTunnel_65 ?_
        exact z_iret C0 Wd hret hlk hz11 (by have e : (zdRT x0 x1 (zM0 399)) = ((0, (zM0 399 (8 + 8 * x0 + x1)), zup (zup (zM0 399) (8 + 8 * x0 + x1) 0) (8 + 8 * x1 + x0) 0) : zO) := (by unfold zdRT; first | (rw [if_pos (by first | assumption | omega)]; done) | (rw [if_neg (by first | assumption | omega), if_pos (by first | assumption | omega)]; done) | (rw [if_neg (by first | assumption | omega)]; first | done | rfl | (rw [zb_t (by assumption)]; done) | (rw [zb_f (by assumption)]; done)) | (rw [if_neg (by first | assumption | omega), if_neg (by first | assumption | omega), if_pos (by first | assumption | omega)]; done) | (rw [if_neg (by first | assumption | omega), if_neg (by first | assumption | omega)]; first | done | rfl | (rw [zb_t (by assumption)]; done) | (rw [zb_f (by assumption)]; done)) | (rw [if_neg (by first | assumption | omega), if_neg (by first | assumption | omega), if_neg (by first | assumption | omega)]; first | done | rfl | (rw [zb_t (by assumption)]; done) | (rw [zb_f (by assumption)]; done))); rw [e]; exact Or.inr ⟨rfl, rfl, rfl, rfl⟩) dX12_doRemoveTunnel_66
      · skip
        refine z_aload_n C0 hl 1 rfl dX12_doRemoveTunnel_37 ?_
        refine z_iconst C0 dX12_doRemoveTunnel_38 ?_
        refine z_invVi (As := [.int (zI 2)]) (rest := []) C0 Wd (ct_X12_fails l g ad zM0 zF0 2 (zR_mk (by decide) (by decide))) kv_X12_fails zN398 (zE_9 zK398) rfl zk_1687 rfl hl.1 rfl (Nat.le_of_ble_eq_true rfl) (by decide) (by decide) dX12_doRemoveTunnel_39 (fun r17 zMr17 zFr17 H locs hrr17 hp Wd => ?_)
        obtain ⟨rfl, rfl, rfl⟩ := hp
        exact z_iret C0 Wd hret hlk (zR_mk (by decide) (by decide)) (by have e : (zdRT x0 x1 (zM0 399)) = ((2, 0, zM0 399) : zO) := (by unfold zdRT; first | (rw [if_pos (by first | assumption | omega)]; done) | (rw [if_neg (by first | assumption | omega), if_pos (by first | assumption | omega)]; done) | (rw [if_neg (by first | assumption | omega)]; first | done | rfl | (rw [zb_t (by assumption)]; done) | (rw [zb_f (by assumption)]; done)) | (rw [if_neg (by first | assumption | omega), if_neg (by first | assumption | omega), if_pos (by first | assumption | omega)]; done) | (rw [if_neg (by first | assumption | omega), if_neg (by first | assumption | omega)]; first | done | rfl | (rw [zb_t (by assumption)]; done) | (rw [zb_f (by assumption)]; done)) | (rw [if_neg (by first | assumption | omega), if_neg (by first | assumption | omega), if_neg (by first | assumption | omega)]; first | done | rfl | (rw [zb_t (by assumption)]; done) | (rw [zb_f (by assumption)]; done))); rw [e]; exact Or.inl ⟨(by show (0 : Int) < 2; decide), rfl, rfl, rfl⟩) dX12_doRemoveTunnel_42
    · skip
      refine z_aload_n C0 hl 0 rfl dX12_doRemoveTunnel_16 ?_
      refine z_iconst C0 dX12_doRemoveTunnel_17 ?_
      refine z_invVi (As := [.int (zI 1)]) (rest := []) C0 Wd (ct_X12_fails l g ad zM0 zF0 1 (zR_mk (by decide) (by decide))) kv_X12_fails zN398 (zE_9 zK398) rfl zk_1687 rfl hl.1 rfl (Nat.le_of_ble_eq_true rfl) (by decide) (by decide) dX12_doRemoveTunnel_18 (fun r19 zMr19 zFr19 H locs hrr19 hp Wd => ?_)
      obtain ⟨rfl, rfl, rfl⟩ := hp
      exact z_iret C0 Wd hret hlk (zR_mk (by decide) (by decide)) (by have e : (zdRT x0 x1 (zM0 399)) = ((1, 0, zM0 399) : zO) := (by unfold zdRT; first | (rw [if_pos (by first | assumption | omega)]; done) | (rw [if_neg (by first | assumption | omega), if_pos (by first | assumption | omega)]; done) | (rw [if_neg (by first | assumption | omega)]; first | done | rfl | (rw [zb_t (by assumption)]; done) | (rw [zb_f (by assumption)]; done)) | (rw [if_neg (by first | assumption | omega), if_neg (by first | assumption | omega), if_pos (by first | assumption | omega)]; done) | (rw [if_neg (by first | assumption | omega), if_neg (by first | assumption | omega)]; first | done | rfl | (rw [zb_t (by assumption)]; done) | (rw [zb_f (by assumption)]; done)) | (rw [if_neg (by first | assumption | omega), if_neg (by first | assumption | omega), if_neg (by first | assumption | omega)]; first | done | rfl | (rw [zb_t (by assumption)]; done) | (rw [zb_f (by assumption)]; done))); rw [e]; exact Or.inl ⟨(by show (0 : Int) < 1; decide), rfl, rfl, rfl⟩) dX12_doRemoveTunnel_21
