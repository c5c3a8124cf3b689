/-! the class: codes -/
theorem kv_J6_bitCount_0f7a4 : zKS yJ6_bitCount_0f7a4 cJ6_bitCount_0f7a4 1 (some .int) 1 := ⟨zk_711, zk_710, zk_53, by decide, by decide, by decide +kernel⟩
set_option maxHeartbeats 4000000 in
set_option maxRecDepth 100000 in
theorem ct_J6_bitCount_0f7a4 (l : Launch) (g : zG) (N : zNs) (zb6 : zIn N 396) (zb7 : zIn N 397) (ad : Int → Nat) (zM0 zF0 : zMem) (x0 : Int) (hx0 : zR x0) (h0 : 0 ≤ x0 ∧ x0 < 32) : zMt l yJ6_bitCount_0f7a4 cJ6_bitCount_0f7a4 1 (some .int) 0 0 0 g N ad [.int (zI x0)] zM0 zF0 (zPi (fun r M' F' => zpc x0 = r ∧ zM0 = M' ∧ zF0 = F')) := by
  refine zMt.of "java/lang/Integer" rfl (by decide +kernel) (Nat.le_of_ble_eq_true rfl) (fun {p e s m args below meth c ls} C0 Wd hl hret hlk hin => ?_)
  have hl : lv_has ls 1 [(0, .int (zI x0))] := hl
  refine z_iload_n C0 hl 0 rfl dJ6_bitCount_0f7a4_0 ?_
  refine z_iload_n C0 hl 0 rfl dJ6_bitCount_0f7a4_1 ?_
  refine z_iconst C0 dJ6_bitCount_0f7a4_2 ?_
  refine z_iushr C0 (v := (zus x0 1)) (zI_of _).symm dJ6_bitCount_0f7a4_3 ?_
  refine z_ldcw C0 zk_712 (v := 1431655765) (by decide) dJ6_bitCount_0f7a4_4 ?_
  refine z_iand C0 (v := (zan (zus x0 1) 1431655765)) (zI_of _).symm dJ6_bitCount_0f7a4_7 ?_
  refine z_isub C0 dJ6_bitCount_0f7a4_8 ?_
  refine z_top (show zI (x0 - (zan (zus x0 1) 1431655765)) = zI (zb1 x0) from rfl) ?_
  refine z_istore_n C0 hl [(0, .int (zI (zb1 x0)))] (by decide) rfl dJ6_bitCount_0f7a4_9 (fun ls hl => ?_)
  refine z_iload_n C0 hl 0 rfl dJ6_bitCount_0f7a4_10 ?_
  refine z_ldcw C0 zk_713 (v := 858993459) (by decide) dJ6_bitCount_0f7a4_11 ?_
  refine z_iand C0 (v := (zan (zb1 x0) 858993459)) (zI_of _).symm dJ6_bitCount_0f7a4_14 ?_
  refine z_iload_n C0 hl 0 rfl dJ6_bitCount_0f7a4_15 ?_
  refine z_iconst C0 dJ6_bitCount_0f7a4_16 ?_
  refine z_iushr C0 (v := (zus (zb1 x0) 2)) (zI_of _).symm dJ6_bitCount_0f7a4_17 ?_
  refine z_ldcw C0 zk_713 (v := 858993459) (by decide) dJ6_bitCount_0f7a4_18 ?_
  refine z_iand C0 (v := (zan (zus (zb1 x0) 2) 858993459)) (zI_of _).symm dJ6_bitCount_0f7a4_21 ?_
  refine z_iadd C0 dJ6_bitCount_0f7a4_22 ?_
  refine z_top (show zI ((zan (zb1 x0) 858993459) + (zan (zus (zb1 x0) 2) 858993459)) = zI (zb2 (zb1 x0)) from rfl) ?_
  refine z_istore_n C0 hl [(0, .int (zI (zb2 (zb1 x0))))] (by decide) rfl dJ6_bitCount_0f7a4_23 (fun ls hl => ?_)
  refine z_iload_n C0 hl 0 rfl dJ6_bitCount_0f7a4_24 ?_
  refine z_iload_n C0 hl 0 rfl dJ6_bitCount_0f7a4_25 ?_
  refine z_iconst C0 dJ6_bitCount_0f7a4_26 ?_
  refine z_iushr C0 (v := (zus (zb2 (zb1 x0)) 4)) (zI_of _).symm dJ6_bitCount_0f7a4_27 ?_
  refine z_iadd C0 dJ6_bitCount_0f7a4_28 ?_
  refine z_ldcw C0 zk_714 (v := 252645135) (by decide) dJ6_bitCount_0f7a4_29 ?_
  refine z_iand C0 (v := (zan ((zb2 (zb1 x0)) + (zus (zb2 (zb1 x0)) 4)) 252645135)) (zI_of _).symm dJ6_bitCount_0f7a4_32 ?_
  refine z_top (show zI (zan ((zb2 (zb1 x0)) + (zus (zb2 (zb1 x0)) 4)) 252645135) = zI (zb3 (zb2 (zb1 x0))) from rfl) ?_
  refine z_istore_n C0 hl [(0, .int (zI (zb3 (zb2 (zb1 x0)))))] (by decide) rfl dJ6_bitCount_0f7a4_33 (fun ls hl => ?_)
  refine z_iload_n C0 hl 0 rfl dJ6_bitCount_0f7a4_34 ?_
  refine z_iload_n C0 hl 0 rfl dJ6_bitCount_0f7a4_35 ?_
  refine z_bipush C0 dJ6_bitCount_0f7a4_36 (by decide) ?_
  refine z_iushr C0 (v := (zus (zb3 (zb2 (zb1 x0))) 8)) (zI_of _).symm dJ6_bitCount_0f7a4_38 ?_
  refine z_iadd C0 dJ6_bitCount_0f7a4_39 ?_
  refine z_top (show zI ((zb3 (zb2 (zb1 x0))) + (zus (zb3 (zb2 (zb1 x0))) 8)) = zI (zb4 (zb3 (zb2 (zb1 x0)))) from rfl) ?_
  refine z_istore_n C0 hl [(0, .int (zI (zb4 (zb3 (zb2 (zb1 x0))))))] (by decide) rfl dJ6_bitCount_0f7a4_40 (fun ls hl => ?_)
  refine z_iload_n C0 hl 0 rfl dJ6_bitCount_0f7a4_41 ?_
  refine z_iload_n C0 hl 0 rfl dJ6_bitCount_0f7a4_42 ?_
  refine z_bipush C0 dJ6_bitCount_0f7a4_43 (by decide) ?_
  refine z_iushr C0 (v := (zus (zb4 (zb3 (zb2 (zb1 x0)))) 16)) (zI_of _).symm dJ6_bitCount_0f7a4_45 ?_
  refine z_iadd C0 dJ6_bitCount_0f7a4_46 ?_
  refine z_top (show zI ((zb4 (zb3 (zb2 (zb1 x0)))) + (zus (zb4 (zb3 (zb2 (zb1 x0)))) 16)) = zI (zb5 (zb4 (zb3 (zb2 (zb1 x0))))) from rfl) ?_
  refine z_istore_n C0 hl [(0, .int (zI (zb5 (zb4 (zb3 (zb2 (zb1 x0)))))))] (by decide) rfl dJ6_bitCount_0f7a4_47 (fun ls hl => ?_)
  refine z_iload_n C0 hl 0 rfl dJ6_bitCount_0f7a4_48 ?_
  refine z_bipush C0 dJ6_bitCount_0f7a4_49 (by decide) ?_
  refine z_iand C0 (v := (zan (zb5 (zb4 (zb3 (zb2 (zb1 x0))))) 63)) (zI_of _).symm dJ6_bitCount_0f7a4_51 ?_
  refine z_top (zbc_is h0.1 h0.2) ?_
  have hpb := zpc_bd x0
  exact z_iret C0 Wd hret hlk (zR_mk (by omega) (by omega)) ⟨by first | rfl | (simp only [zb]; first | rfl | (split <;> omega) | omega) | (simp [zb, *]; done) | omega, by first | rfl | (simp [zb, *]; done), rfl⟩ dJ6_bitCount_0f7a4_52
theorem kv_X11_isNumber : zKS yX11_isNumber cX11_isNumber 1 (some .boolean) 1 := ⟨zk_638, zk_637, zk_25, by decide, by decide, by decide +kernel⟩
set_option maxHeartbeats 4000000 in
set_option maxRecDepth 100000 in
theorem ct_X11_isNumber (l : Launch) (g : zG) (zX : va_W) (ad : Int → Nat) (zM0 zF0 : zMem) (x0 : Int) (hx0 : zR x0) : zMt l yX11_isNumber cX11_isNumber 1 (some .boolean) 0 0 0 g (0, 398, zX) ad [.int (zI x0)] zM0 zF0 (zPi (fun r M' F' => zb (0 ≤ x0 ∧ x0 ≤ 15) = r ∧ zM0 = M' ∧ zF0 = F')) := by
  refine zMt.of "DrumWarren" rfl (by decide +kernel) (Nat.le_of_ble_eq_true rfl) (fun {p e s m args below meth c ls} C0 Wd hl hret hlk hin => ?_)
  have hl : lv_has ls 1 [(0, .int (zI x0))] := hl
  refine z_iload_n C0 hl 0 rfl dX11_isNumber_0 ?_
  refine z_if_lt C0 (tgt := 14) hx0 dX11_isNumber_1 (by decide) (fun c1 => ?_) (fun c1 => ?_)
  · skip
    refine z_iconst C0 dX11_isNumber_14 ?_
    exact z_zret C0 Wd hret hlk (by decide) ⟨by first | rfl | (rw [zb_t (by omega)]; done) | (rw [zb_f (by omega)]; done), rfl, rfl⟩ dX11_isNumber_15
  · skip
    refine z_iload_n C0 hl 0 rfl dX11_isNumber_4 ?_
    refine z_bipush C0 dX11_isNumber_5 (by decide) ?_
    refine z_icmp_gt C0 (tgt := 14) hx0 (zR_mk (by decide) (by decide)) dX11_isNumber_7 (by decide) (fun c2 => ?_) (fun c2 => ?_)
    · skip
      refine z_iconst C0 dX11_isNumber_14 ?_
      exact z_zret C0 Wd hret hlk (by decide) ⟨by first | rfl | (rw [zb_t (by omega)]; done) | (rw [zb_f (by omega)]; done), rfl, rfl⟩ dX11_isNumber_15
    · skip
      refine z_iconst C0 dX11_isNumber_10 ?_
      refine z_goto C0 (tgt := 15) dX11_isNumber_11 (by decide) ?_
      exact z_zret C0 Wd hret hlk (by decide) ⟨by first | rfl | (rw [zb_t (by omega)]; done) | (rw [zb_f (by omega)]; done), rfl, rfl⟩ dX11_isNumber_15
theorem kv_X11_codeOf : zKS yX11_codeOf cX11_codeOf 1 (some .int) 1 := ⟨zk_708, zk_707, zk_25, by decide, by decide, by decide +kernel⟩
set_option maxHeartbeats 4000000 in
set_option maxRecDepth 100000 in
theorem ct_X11_codeOf (l : Launch) (g : zG) (zX : va_W) (ad : Int → Nat) (zM0 zF0 : zMem) (x0 : Int) (hx0 : zR x0) (h0 : 0 ≤ x0 ∧ x0 < 16) : zMt l yX11_codeOf cX11_codeOf 1 (some .int) 1 0 0 g (0, 398, zX) ad [.int (zI x0)] zM0 zF0 (zPi (fun r M' F' => zcd x0 = r ∧ zM0 = M' ∧ zF0 = F')) := by
  refine zMt.of "DrumWarren" rfl (by decide +kernel) (Nat.le_of_ble_eq_true rfl) (fun {p e s m args below meth c ls} C0 Wd hl hret hlk hin => ?_)
  have hl : lv_has ls 1 [(0, .int (zI x0))] := hl
  refine z_iload_n C0 hl 0 rfl dX11_codeOf_0 ?_
  refine z_iconst C0 dX11_codeOf_1 ?_
  refine z_ishl C0 (v := (x0 * 2)) (zI_shl2 (by omega) (by omega)) dX11_codeOf_2 ?_
  refine z_iload_n C0 hl 0 rfl dX11_codeOf_3 ?_
  refine z_invSi (As := [.int (zI x0)]) (rest := [.int (zI (x0 * 2))]) C0 Wd (ct_J6_bitCount_0f7a4 l g (0, 398, zX) zN396 zN397 ad zM0 zF0 x0 hx0 (by omega)) kv_J6_bitCount_0f7a4 zk_709 rfl hl.1 rfl (Nat.le_of_ble_eq_true rfl) (by decide) (by decide) dX11_codeOf_4 (fun r1 zMr1 zFr1 H locs hrr1 hp Wd => ?_)
  obtain ⟨rfl, rfl, rfl⟩ := hp
  have hpb := zpc_bd x0
  refine z_iconst C0 dX11_codeOf_7 ?_
  refine z_iand C0 (v := (zpc x0 % 2)) (zI_and1 hrr1) dX11_codeOf_8 ?_
  refine z_ior C0 (v := (zcd x0)) (zcd_is h0.1 h0.2) dX11_codeOf_9 ?_
  have hcb := zcd_bd h0.1 h0.2
  exact z_iret C0 Wd hret hlk (by have q0 := hrr1.1; have p0 := hrr1.2; have q1 := hx0.1; have p1 := hx0.2; exact zR_mk (by omega) (by omega)) ⟨by first | rfl | (simp only [zb]; first | rfl | (split <;> omega) | omega) | (simp [zb, *]; done) | omega, by first | rfl | (simp [zb, *]; done), rfl⟩ dX11_codeOf_10
theorem kv_X11_numberOf : zKS yX11_numberOf cX11_numberOf 1 (some .int) 1 := ⟨zk_1427, zk_1426, zk_25, by decide, by decide, by decide +kernel⟩
set_option maxHeartbeats 4000000 in
set_option maxRecDepth 100000 in
theorem ct_X11_numberOf (l : Launch) (g : zG) (zX : va_W) (ad : Int → Nat) (zM0 zF0 : zMem) (x0 : Int) (hx0 : zR x0) (h0 : 0 ≤ x0 ∧ x0 < 32) : zMt l yX11_numberOf cX11_numberOf 1 (some .int) 1 0 0 g (0, 398, zX) ad [.int (zI x0)] zM0 zF0 (zPi (fun r M' F' => ((zpc x0 % 2 = 0) ∧ (x0 / 2) = r ∧ zM0 = M' ∧ zF0 = F') ∨ ((¬ zpc x0 % 2 = 0) ∧ (-1) = r ∧ zM0 = M' ∧ zF0 = F'))) := by
  refine zMt.of "DrumWarren" rfl (by decide +kernel) (Nat.le_of_ble_eq_true rfl) (fun {p e s m args below meth c ls} C0 Wd hl hret hlk hin => ?_)
  have hl : lv_has ls 1 [(0, .int (zI x0))] := hl
  refine z_iload_n C0 hl 0 rfl dX11_numberOf_0 ?_
  refine z_invSi (As := [.int (zI x0)]) (rest := []) C0 Wd (ct_J6_bitCount_0f7a4 l g (0, 398, zX) zN396 zN397 ad zM0 zF0 x0 hx0 (by omega)) kv_J6_bitCount_0f7a4 zk_709 rfl hl.1 rfl (Nat.le_of_ble_eq_true rfl) (by decide) (by decide) dX11_numberOf_1 (fun r1 zMr1 zFr1 H locs hrr1 hp Wd => ?_)
  obtain ⟨rfl, rfl, rfl⟩ := hp
  have hpb := zpc_bd x0
  refine z_iconst C0 dX11_numberOf_4 ?_
  refine z_iand C0 (v := (zpc x0 % 2)) (zI_and1 hrr1) dX11_numberOf_5 ?_
  refine z_if_ne C0 (tgt := 15) (by have q0 := hrr1.1; have p0 := hrr1.2; exact zR_mk (by omega) (by omega)) dX11_numberOf_6 (by decide) (fun c3 => ?_) (fun c3 => ?_)
  · skip
    refine z_iconst C0 dX11_numberOf_15 ?_
    exact z_iret C0 Wd hret hlk (zR_mk (by decide) (by decide)) (by first | exact (Or.inl ⟨(by first | assumption | omega), (by first | rfl | omega), (by first | rfl | (simp [zb, *]; done)), rfl⟩) | exact (Or.inr ⟨(by first | assumption | omega), (by first | rfl | omega), (by first | rfl | (simp [zb, *]; done)), rfl⟩)) dX11_numberOf_16
  · skip
    refine z_iload_n C0 hl 0 rfl dX11_numberOf_9 ?_
    refine z_iconst C0 dX11_numberOf_10 ?_
    refine z_ishr C0 (v := (x0 / 2)) (zI_shrL (by omega) (by omega) (by decide) (by decide) (by decide)) dX11_numberOf_11 ?_
    refine z_goto C0 (tgt := 16) dX11_numberOf_12 (by decide) ?_
    exact z_iret C0 Wd hret hlk (by have q0 := hx0.1; have p0 := hx0.2; exact zR_mk (by omega) (by omega)) (by first | exact (Or.inl ⟨(by first | assumption | omega), (by first | rfl | omega), (by first | rfl | (simp [zb, *]; done)), rfl⟩) | exact (Or.inr ⟨(by first | assumption | omega), (by first | rfl | omega), (by first | rfl | (simp [zb, *]; done)), rfl⟩)) dX11_numberOf_16
theorem kv_X11_isOne : zKS yX11_isOne cX11_isOne 2 (some .boolean) 2 := ⟨zk_717, zk_716, zk_25, by decide, by decide, by decide +kernel⟩
set_option maxHeartbeats 4000000 in
set_option maxRecDepth 100000 in
theorem ct_X11_isOne (l : Launch) (g : zG) (zX : va_W) (ad : Int → Nat) (zM0 zF0 : zMem) (x0 : Int) (hx0 : zR x0) (x1 : Int) (hx1 : zR x1) (h0 : 0 ≤ x0 ∧ x0 < 32) (h1 : 0 ≤ x1 ∧ x1 < 5) : zMt l yX11_isOne cX11_isOne 2 (some .boolean) 0 0 0 g (0, 398, zX) ad [.int (zI x0), .int (zI x1)] zM0 zF0 (zPi (fun r M' F' => zb (x0 / 2 ^ (4 - x1).toNat % 2 = 1) = r ∧ zM0 = M' ∧ zF0 = F')) := by
  refine zMt.of "DrumWarren" rfl (by decide +kernel) (Nat.le_of_ble_eq_true rfl) (fun {p e s m args below meth c ls} C0 Wd hl hret hlk hin => ?_)
  have hl : lv_has ls 2 [(0, .int (zI x0)), (1, .int (zI x1))] := hl
  refine z_iload_n C0 hl 0 rfl dX11_isOne_0 ?_
  refine z_iconst C0 dX11_isOne_1 ?_
  refine z_iload_n C0 hl 1 rfl dX11_isOne_2 ?_
  refine z_isub C0 dX11_isOne_3 ?_
  refine z_ishr C0 (v := (x0 / 2 ^ (4 - x1).toNat)) (zI_shr (by omega) (by omega) (by omega) (by omega)) dX11_isOne_4 ?_
  refine z_iconst C0 dX11_isOne_5 ?_
  refine z_iand C0 (v := ((x0 / 2 ^ (4 - x1).toNat) % 2)) (zI_and1 (zR_dv (by omega) (by omega))) dX11_isOne_6 ?_
  refine z_iconst C0 dX11_isOne_7 ?_
  refine z_icmp_ne C0 (tgt := 15) (by have q0 := hx0.1; have p0 := hx0.2; have q1 := hx1.1; have p1 := hx1.2; exact zR_mk (by omega) (by omega)) (zR_mk (by decide) (by decide)) dX11_isOne_8 (by decide) (fun c1 => ?_) (fun c1 => ?_)
  · skip
    refine z_iconst C0 dX11_isOne_15 ?_
    exact z_zret C0 Wd hret hlk (by decide) ⟨by first | (rw [zb_t (by assumption)]; done) | (rw [zb_f (by assumption)]; done), rfl, rfl⟩ dX11_isOne_16
  · skip
    refine z_iconst C0 dX11_isOne_11 ?_
    refine z_goto C0 (tgt := 16) dX11_isOne_12 (by decide) ?_
    exact z_zret C0 Wd hret hlk (by decide) ⟨by first | (rw [zb_t (by assumption)]; done) | (rw [zb_f (by assumption)]; done), rfl, rfl⟩ dX11_isOne_16
theorem kv_X11_codesDecode : zKS yX11_codesDecode cX11_codesDecode 1 (some .boolean) 0 := ⟨zk_1423, zk_1422, zk_25, by decide, by decide, by decide +kernel⟩
set_option maxHeartbeats 4000000 in
set_option maxRecDepth 100000 in
theorem ct_X11_codesDecode (l : Launch) (g : zG) (zX : va_W) (ad : Int → Nat) (zM0 zF0 : zMem) : zMt l yX11_codesDecode cX11_codesDecode 1 (some .boolean) 2 0 0 g (0, 398, zX) ad [] zM0 zF0 (zPi (fun r M' F' => 1 = r ∧ zM0 = M' ∧ zF0 = F')) := by
  refine zMt.of "DrumWarren" rfl (by decide +kernel) (Nat.le_of_ble_eq_true rfl) (fun {p e s m args below meth c ls} C0 Wd hl hret hlk hin => ?_)
  have hl : lv_has ls 1 [] := hl
  refine z_iconst C0 dX11_codesDecode_0 ?_
  refine z_istore_n C0 hl [(0, .int (zI 0))] (by decide) rfl dX11_codesDecode_1 (fun ls hl => ?_)
  have aft2 : ∀ (k2 : Nat) (hk2 : (k2 : Int) ≤ 16) (hx2 : (k2 : Int) = 16) (H : Heap) (locs : List Loc) (ls : Array Slot) (Wd : zW g (zA (0, 398, zX) ad s.heap.size) s.heap (0, 398, zX) ad zM0 zF0 H locs) (hl : lv_has ls 1 [(0, .int (zI (k2 : Int)))]), W p l e (zrm 2 0 0) s m args below meth c H locs 0 0 (zMQ below g (0, 398, zX) ad (zPi (fun r M' F' => 1 = r ∧ zM0 = M' ∧ zF0 = F')) args s 0 0) (F0 m 27 ls []) := by
    intro k2 hk2  hx2 H locs ls Wd hl
    replace hl : lv_has ls 1 [] := lv_sub hl [] rfl
    refine z_iconst C0 dX11_codesDecode_27 ?_
    exact z_zret C0 Wd hret hlk (by decide) ⟨by first | rfl | (simp only [zb]; first | rfl | (split <;> omega) | omega) | (simp [zb, *]; done) | omega, by first | rfl | (simp [zb, *]; done), rfl⟩ dX11_codesDecode_28
  have lp2 : ∀ (d2 k2 : Nat) (hk2 : (k2 : Int) + d2 = 16) (H : Heap) (locs : List Loc) (ls : Array Slot) (Wd : zW g (zA (0, 398, zX) ad s.heap.size) s.heap (0, 398, zX) ad zM0 zF0 H locs) (hl : lv_has ls 1 [(0, .int (zI (k2 : Int)))]), W p l e (zrm 2 0 0) s m args below meth c H locs 0 0 (zMQ below g (0, 398, zX) ad (zPi (fun r M' F' => 1 = r ∧ zM0 = M' ∧ zF0 = F')) args s 0 0) (F0 m 2 ls []) := by
    intro d2
    induction d2 with
    | zero =>
      intro k2 hk2  H locs ls Wd hl
      refine z_iload_n C0 hl 0 rfl dX11_codesDecode_2 ?_
      refine z_bipush C0 dX11_codesDecode_3 (by decide) ?_
      refine z_icmp_gt C0 (tgt := 27) (zR_mk (by omega) (by omega)) (zR_mk (by decide) (by decide)) dX11_codesDecode_5 (by decide) (fun c1 => ?_) (fun c1 => ?_)
      · skip
        first | exact aft2 k2 (by omega)  (by first | assumption | omega) _ _ _ Wd (lv_sub hl [0] rfl) | (exfalso; omega)
      · skip
        exfalso; omega
    | succ d2 ih2 =>
      intro k2 hk2  H locs ls Wd hl
      refine z_iload_n C0 hl 0 rfl dX11_codesDecode_2 ?_
      refine z_bipush C0 dX11_codesDecode_3 (by decide) ?_
      refine z_icmp_gt C0 (tgt := 27) (zR_mk (by omega) (by omega)) (zR_mk (by decide) (by decide)) dX11_codesDecode_5 (by decide) (fun c2 => ?_) (fun c2 => ?_)
      · skip
        first | exact aft2 k2 (by omega)  (by first | assumption | omega) _ _ _ Wd (lv_sub hl [0] rfl) | (exfalso; omega)
      · skip
        refine z_iload_n C0 hl 0 rfl dX11_codesDecode_8 ?_
        have hcb := zcd_bd (x := (k2 : Int)) (by omega) (by omega)
        have hcn := znm_is (n := (k2 : Int)) ⟨by omega, by omega⟩
        refine z_invSi (As := [.int (zI (k2 : Int))]) (rest := []) C0 Wd (ct_X11_codeOf l g zX ad zM0 zF0 (k2 : Int) (zR_mk (by omega) (by omega)) (by omega)) kv_X11_codeOf zk_1424 rfl hl.1 rfl (Nat.le_of_ble_eq_true rfl) (by decide) (by decide) dX11_codesDecode_9 (fun r3 zMr3 zFr3 H locs hrr3 hp Wd => ?_)
        obtain ⟨rfl, rfl, rfl⟩ := hp
        refine z_invSi (As := [.int (zI (zcd (k2 : Int)))]) (rest := []) C0 Wd (ct_X11_numberOf l g zX ad zM0 zF0 (zcd (k2 : Int)) hrr3 (by omega)) kv_X11_numberOf zk_1425 rfl hl.1 rfl (Nat.le_of_ble_eq_true rfl) (by decide) (by decide) dX11_codesDecode_12 (fun r5 zMr5 zFr5 H locs hrr5 hp Wd => ?_)
        rcases hp with ⟨hr5_0_0, rfl, rfl, rfl⟩ | ⟨hr5_1_0, rfl, rfl, rfl⟩
        · skip
          refine z_iload_n C0 hl 0 rfl dX11_codesDecode_15 ?_
          refine z_icmp_eq C0 (tgt := 21) hrr5 (zR_mk (by omega) (by omega)) dX11_codesDecode_16 (by decide) (fun c7 => ?_) (fun c7 => absurd c7 (fun z => z hcn.2))
          refine z_iinc C0 hl 0 (t := (k2 : Int)) (u := ((k2 : Int) + 1)) rfl (by omega) [(0, .int (zI ((k2 : Int) + 1)))] (by decide) rfl dX11_codesDecode_21 (fun ls hl => ?_)
          refine z_goto C0 (tgt := 2) dX11_codesDecode_24 (by decide) ?_
          exact ih2 (k2 + 1) (by omega)  _ _ _ Wd (lv_sub hl [0] rfl)
        · skip
          exfalso; have := (znm_is (n := (k2 : Int)) ⟨by omega, by omega⟩).1; omega
  exact lp2 16 0 (by omega)  _ _ _ Wd (lv_sub hl [0] rfl)
