/-! the class: floats -/
theorem kv_X11_loudnessAfter : zKS yX11_loudnessAfter cX11_loudnessAfter 1 (some .float) 1 := ⟨zk_815, zk_814, zk_25, by decide, by decide, by decide +kernel⟩
set_option maxHeartbeats 4000000 in
set_option maxRecDepth 100000 in
theorem ct_X11_loudnessAfter (l : Launch) (g : zG) (zX : va_W) (ad : Int → Nat) (zM0 zF0 : zMem) (x0 : Int) (hx0 : zR x0) (hd : x0 = 1000 ∨ (0 ≤ x0 ∧ x0 ≤ 63)) : zMt l yX11_loudnessAfter cX11_loudnessAfter 1 (some .float) 0 0 0 g (0, 398, zX) ad [.int (zI x0)] zM0 zF0 (zPf (fun r M' F' => (zfl x0) = r ∧ zM0 = M' ∧ zF0 = F')) := by
  refine zMt.of "DrumWarren" rfl (by decide +kernel) (Nat.le_of_ble_eq_true rfl) (fun {p e s m args below meth c ls} C0 Wd hl hret hlk hin => ?_)
  have hl : lv_has ls 1 [(0, .int (zI x0))] := hl
  refine z_iload_n C0 hl 0 rfl dX11_loudnessAfter_0 ?_
  refine z_sipush C0 dX11_loudnessAfter_1 (by decide) ?_
  refine z_icmp_ne C0 (tgt := 11) hx0 (zR_mk (by decide) (by decide)) dX11_loudnessAfter_4 (by decide) (fun c1 => ?_) (fun c1 => ?_)
  · skip
    refine z_fconst1 C0 dX11_loudnessAfter_11 ?_
    refine z_fconst1 C0 dX11_loudnessAfter_12 ?_
    refine z_iload_n C0 hl 0 rfl dX11_loudnessAfter_13 ?_
    refine z_i2f C0 dX11_loudnessAfter_14 ?_
    refine z_fadd C0 (zf_ok32 (zf_add32 zf_c1 (zf_i232 (by rw [zI_toInt (by omega) (by omega)]; omega)))) dX11_loudnessAfter_15 ?_
    refine z_fdiv C0 (zf_ok32 (zf_div32 zf_c1 (zf_dv (by omega) (by omega)))) dX11_loudnessAfter_16 ?_
    exact z_fret C0 Wd hret hlk ⟨by unfold zfl; rw [if_neg (by omega)], rfl, rfl⟩ dX11_loudnessAfter_17
  · skip
    refine z_fconst0 C0 dX11_loudnessAfter_7 ?_
    refine z_goto C0 (tgt := 17) dX11_loudnessAfter_8 (by decide) ?_
    exact z_fret C0 Wd hret hlk ⟨by unfold zfl; rw [if_pos (by omega)], rfl, rfl⟩ dX11_loudnessAfter_17
theorem kv_X11_loudness : zKV yX11_loudness cX11_loudness 3 (some .float) "DrumWarren" 2 := ⟨zk_812, zk_810, zk_811, zk_25, by decide, by decide, by decide +kernel⟩
set_option maxHeartbeats 4000000 in
set_option maxRecDepth 100000 in
theorem ct_X11_loudness (l : Launch) (g : zG) (zX : va_W) (ad : Int → Nat) (zM0 zF0 : zMem) (V : Int → Int) (zt : Int) (x0 : Int) (hx0 : zR x0) (x1 : Int) (hx1 : zR x1) (hR : zRS 1 V zM0 zF0) (hI : zIV zt V) : zMx l yX11_loudness cX11_loudness 3 (some .float) 8 2 12 g (0, 398, zX) ad [.ref (ad 0), .int (zI x0), .int (zI x1)] zM0 zF0 (zPf (fun r M' F' => (((zisC V x0 ∧ zisC V x1)) ∧ (zLd x0 x1 V) = r ∧ zM0 = M' ∧ zF0 = F'))) (fun E M' F' => (E = "java/lang/IndexOutOfBoundsException" ∧ ¬ (zisC V x0 ∧ zisC V x1)) ∧ zM0 = M' ∧ zF0 = F') := by
  refine zMx.of "DrumWarren" rfl (by decide +kernel) (Nat.le_of_ble_eq_true rfl) (fun {p e s m args below meth c ls} C0 Wd hl hret hlk hin hst hno => ?_)
  have hl : lv_has ls 3 [(0, .ref (ad 0)), (1, .int (zI x0)), (2, .int (zI x1))] := hl
  have h0b := hI.1
  have h1b := hI.2.1
  have h2b := hI.2.2.1
  refine z_aload_n C0 hl 0 rfl dX11_loudness_0 ?_
  refine z_iload_n C0 hl 1 rfl dX11_loudness_1 ?_
  refine z_invVX (As := [.int (zI x0)]) (rest := []) C0 Wd hst hno hlk (ct_X11_checkChamber l g zX ad zM0 zF0 V zt x0 hx0 hR hI) kv_X11_checkChamber (zrecvW C0 Wd zN0 (zE_8 zK0) rfl) zk_785 rfl hl.1 rfl (Nat.le_of_ble_eq_true rfl) (by decide) (by decide) (by decide) (by decide) (fun E M9 F9 h9 => by obtain ⟨q1, q2, rfl, rfl⟩ := h9; refine ⟨?_, rfl, rfl⟩; first | exact ⟨q1, (by first | assumption | omega)⟩) dX11_loudness_2 (z_kkv (fun zMr1 zFr1 H locs hp Wd => ?_))
  rcases hp with ⟨hr1_0_0, rfl, rfl⟩
  · skip
    refine z_aload_n C0 hl 0 rfl dX11_loudness_5 ?_
    refine z_iload_n C0 hl 2 rfl dX11_loudness_6 ?_
    refine z_invVX (As := [.int (zI x1)]) (rest := []) C0 Wd hst hno hlk (ct_X11_checkChamber l g zX ad zM0 zF0 V zt x1 hx1 hR hI) kv_X11_checkChamber (zrecvW C0 Wd zN0 (zE_8 zK0) rfl) zk_785 rfl hl.1 rfl (Nat.le_of_ble_eq_true rfl) (by decide) (by decide) (by decide) (by decide) (fun E M9 F9 h9 => by obtain ⟨q1, q2, rfl, rfl⟩ := h9; refine ⟨?_, rfl, rfl⟩; first | exact ⟨q1, (by first | assumption | omega)⟩) dX11_loudness_7 (z_kkv (fun zMr3 zFr3 H locs hp Wd => ?_))
    rcases hp with ⟨hr3_0_0, rfl, rfl⟩
    · skip
      refine z_aload_n C0 hl 0 rfl dX11_loudness_10 ?_
      refine zg_8_0 C0 Wd zN0 zK0 zk_343 dX11_loudness_11 ?_
      refine zg_7_0 C0 Wd zN1 zK1 zk_194 dX11_loudness_14 ?_
      refine z_rf (show (1 + 1) = 2 by decide) ?_
      refine z_iload_n C0 hl 1 rfl dX11_loudness_17 ?_
      refine z_iload_n C0 hl 2 rfl dX11_loudness_18 ?_
      refine z_invVi (As := [.int (zI x0), .int (zI x1)]) (rest := []) C0 Wd (ct_X2_delayOfWay l g zX ad zM0 zF0 1 zB_1 V x0 hx0 x1 hx1 hR.B (by omega)) kv_X2_delayOfWay zN2 (zE_1 zK2) rfl zk_800 rfl hl.1 rfl (Nat.le_of_ble_eq_true rfl) (by decide) (by decide) dX11_loudness_19 (fun r5 zMr5 zFr5 H locs hrr5 hp Wd => ?_)
      rcases hp with ⟨hr5_0_0, rfl, rfl, rfl⟩ | ⟨hr5_1_0, rfl, rfl, rfl⟩
      · skip
        refine z_invSf (As := [.int (zI (zBF V x0 x1))]) (rest := []) C0 Wd (ct_X11_loudnessAfter l g zX ad zM0 zF0 (zBF V x0 x1) hrr5 (zBF_dl hI.2.2.2.2.1 ⟨by omega, by omega⟩ ⟨by omega, by omega⟩)) kv_X11_loudnessAfter zk_813 rfl hl.1 rfl (Nat.le_of_ble_eq_true rfl) (by decide) (by decide) dX11_loudness_22 (fun r7 zMr7 zFr7 H locs hp Wd => ?_)
        obtain ⟨rfl, rfl, rfl⟩ := hp
        exact z_xret (z_fret C0 Wd hret hlk ⟨by omega, zLd_fl hI.2.2.2.2.1 ⟨by omega, by omega⟩, rfl, rfl⟩ dX11_loudness_25) (by decide) (by decide)
      · skip
        exfalso; omega
theorem kv_X11_meanLoudness : zKV yX11_meanLoudness cX11_meanLoudness 5 (some .float) "DrumWarren" 1 := ⟨zk_859, zk_857, zk_858, zk_25, by decide, by decide, by decide +kernel⟩
set_option maxHeartbeats 4000000 in
set_option maxRecDepth 100000 in
theorem ct_X11_meanLoudness (l : Launch) (g : zG) (zX : va_W) (ad : Int → Nat) (zM0 zF0 : zMem) (V : Int → Int) (zt : Int) (x0 : Int) (hx0 : zR x0) (hR : zRS 1 V zM0 zF0) (hI : zIV zt V) : zMx l yX11_meanLoudness cX11_meanLoudness 5 (some .float) 8 1 6 g (0, 398, zX) ad [.ref (ad 0), .int (zI x0)] zM0 zF0 (zPf (fun r M' F' => ((zisC V x0) ∧ (zMl x0 V) = r ∧ zM0 = M' ∧ zF0 = F'))) (fun E M' F' => (E = "java/lang/IndexOutOfBoundsException" ∧ ¬ zisC V x0) ∧ zM0 = M' ∧ zF0 = F') := by
  refine zMx.of "DrumWarren" rfl (by decide +kernel) (Nat.le_of_ble_eq_true rfl) (fun {p e s m args below meth c ls} C0 Wd hl hret hlk hin hst hno => ?_)
  have hl : lv_has ls 5 [(0, .ref (ad 0)), (1, .int (zI x0))] := hl
  have h0b := hI.1
  have h1b := hI.2.1
  have h2b := hI.2.2.1
  refine z_aload_n C0 hl 0 rfl dX11_meanLoudness_0 ?_
  refine z_iload_n C0 hl 1 rfl dX11_meanLoudness_1 ?_
  refine z_invVX (As := [.int (zI x0)]) (rest := []) C0 Wd hst hno hlk (ct_X11_checkChamber l g zX ad zM0 zF0 V zt x0 hx0 hR hI) kv_X11_checkChamber (zrecvW C0 Wd zN0 (zE_8 zK0) rfl) zk_785 rfl hl.1 rfl (Nat.le_of_ble_eq_true rfl) (by decide) (by decide) (by decide) (by decide) (fun E M9 F9 h9 => by obtain ⟨q1, q2, rfl, rfl⟩ := h9; refine ⟨?_, rfl, rfl⟩; first | exact ⟨q1, (by first | assumption | omega)⟩) dX11_meanLoudness_2 (z_kkv (fun zMr1 zFr1 H locs hp Wd => ?_))
  rcases hp with ⟨hr1_0_0, rfl, rfl⟩
  · skip
    refine z_aload_n C0 hl 0 rfl dX11_meanLoudness_5 ?_
    refine zg_8_0 C0 Wd zN0 zK0 zk_343 dX11_meanLoudness_6 ?_
    refine zg_7_0 C0 Wd zN1 zK1 zk_194 dX11_meanLoudness_9 ?_
    refine z_rf (show (1 + 1) = 2 by decide) ?_
    refine zg_1_0 C0 Wd zN2 zK2 zk_94 dX11_meanLoudness_12 ?_
    obtain ⟨he4, hz3⟩ : (zM0 2 0) = (V 0) ∧ zR (V 0) := (fun q => ⟨q, q ▸ Wd.rm _ _⟩) hR.c0
    refine z_top (congrArg zI he4) ?_
    clear he4
    refine z_istore_n C0 hl [(2, .int (zI (V 0))), (0, .ref (ad 0)), (1, .int (zI x0))] (by decide) rfl dX11_meanLoudness_15 (fun ls hl => ?_)
    refine z_fconst0 C0 dX11_meanLoudness_16 ?_
    refine z_fstore_n C0 hl [(3, .float FP.fconst0), (2, .int (zI (V 0))), (0, .ref (ad 0)), (1, .int (zI x0))] (by decide) rfl dX11_meanLoudness_17 (fun ls hl => ?_)
    refine z_iconst C0 dX11_meanLoudness_18 ?_
    refine z_istore C0 hl [(4, .int (zI 0)), (3, .float FP.fconst0), (2, .int (zI (V 0))), (0, .ref (ad 0)), (1, .int (zI x0))] (by decide) rfl dX11_meanLoudness_19 (fun ls hl => ?_)
    have aft21 : ∀ (k21 : Nat) (hk21 : (k21 : Int) ≤ (V 0)) (u2 : UInt32) (hu : u2 = (zMls x0 V k21)) (hx21 : (k21 : Int) = (V 0)) (H : Heap) (locs : List Loc) (ls : Array Slot) (Wd : zW g (zA (0, 398, zX) ad s.heap.size) s.heap (0, 398, zX) ad zM0 zF0 H locs) (hl : lv_has ls 5 [(0, .ref (ad 0)), (1, .int (zI x0)), (2, .int (zI (V 0))), (3, .float u2), (4, .int (zI (k21 : Int)))]), W p l e (zrm 8 1 6) s m args below meth c H locs 1 6 (zXQ below g (0, 398, zX) ad (zPf (fun r M' F' => ((zisC V x0) ∧ (zMl x0 V) = r ∧ zM0 = M' ∧ zF0 = F'))) (fun E M' F' => (E = "java/lang/IndexOutOfBoundsException" ∧ ¬ zisC V x0) ∧ zM0 = M' ∧ zF0 = F') args s 1 6) (F0 m 52 ls []) := by
      intro k21 hk21 u2 hu hx21 H locs ls Wd hl
      replace hl : lv_has ls 5 [(0, .ref (ad 0)), (1, .int (zI x0)), (2, .int (zI (V 0))), (3, .float u2)] := lv_sub hl [0, 1, 2, 3] rfl
      have ek : k21 = (V 0).toNat := by omega
      refine z_fload_n C0 hl 3 rfl dX11_meanLoudness_52 ?_
      refine z_iload_n C0 hl 2 rfl dX11_meanLoudness_53 ?_
      refine z_i2f C0 dX11_meanLoudness_54 ?_
      refine z_fdiv C0 (zf_ok32 (by rw [hu]; exact zf_div32 (zMls_ok hI.2.2.2.2.1 ⟨by omega, by omega⟩ _) (zf_cn (by omega) (by omega)))) dX11_meanLoudness_55 ?_
      exact z_xret (z_fret C0 Wd hret hlk ⟨by omega, (by rw [hu, ek]; rfl), rfl, rfl⟩ dX11_meanLoudness_56) (by decide) (by decide)
    have lp21 : ∀ (d21 k21 : Nat) (hk21 : (k21 : Int) + d21 = (V 0)) (u2 : UInt32) (hu : u2 = (zMls x0 V k21)) (H : Heap) (locs : List Loc) (ls : Array Slot) (Wd : zW g (zA (0, 398, zX) ad s.heap.size) s.heap (0, 398, zX) ad zM0 zF0 H locs) (hl : lv_has ls 5 [(0, .ref (ad 0)), (1, .int (zI x0)), (2, .int (zI (V 0))), (3, .float u2), (4, .int (zI (k21 : Int)))]), W p l e (zrm 8 1 6) s m args below meth c H locs 1 6 (zXQ below g (0, 398, zX) ad (zPf (fun r M' F' => ((zisC V x0) ∧ (zMl x0 V) = r ∧ zM0 = M' ∧ zF0 = F'))) (fun E M' F' => (E = "java/lang/IndexOutOfBoundsException" ∧ ¬ zisC V x0) ∧ zM0 = M' ∧ zF0 = F') args s 1 6) (F0 m 21 ls []) := by
      intro d21
      induction d21 with
      | zero =>
        intro k21 hk21 u2 hu H locs ls Wd hl
        refine z_iload C0 hl 4 rfl dX11_meanLoudness_21 ?_
        refine z_iload_n C0 hl 2 rfl dX11_meanLoudness_23 ?_
        refine z_icmp_ge C0 (tgt := 52) (zR_mk (by omega) (by omega)) hz3 dX11_meanLoudness_24 (by decide) (fun c5 => ?_) (fun c5 => ?_)
        · skip
          first | exact aft21 k21 (by omega) u2 hu (by first | assumption | omega) _ _ _ Wd (lv_sub hl [0, 1, 2, 3, 4] rfl) | (exfalso; omega)
        · skip
          exfalso; omega
      | succ d21 ih21 =>
        intro k21 hk21 u2 hu H locs ls Wd hl
        refine z_iload C0 hl 4 rfl dX11_meanLoudness_21 ?_
        refine z_iload_n C0 hl 2 rfl dX11_meanLoudness_23 ?_
        refine z_icmp_ge C0 (tgt := 52) (zR_mk (by omega) (by omega)) hz3 dX11_meanLoudness_24 (by decide) (fun c6 => ?_) (fun c6 => ?_)
        · skip
          first | exact aft21 k21 (by omega) u2 hu (by first | assumption | omega) _ _ _ Wd (lv_sub hl [0, 1, 2, 3, 4] rfl) | (exfalso; omega)
        · skip
          refine z_fload_n C0 hl 3 rfl dX11_meanLoudness_27 ?_
          refine z_aload_n C0 hl 0 rfl dX11_meanLoudness_28 ?_
          refine zg_8_0 C0 Wd zN0 zK0 zk_343 dX11_meanLoudness_29 ?_
          refine zg_7_0 C0 Wd zN1 zK1 zk_194 dX11_meanLoudness_32 ?_
          refine z_rf (show (1 + 1) = 2 by decide) ?_
          refine z_iload C0 hl 4 rfl dX11_meanLoudness_35 ?_
          refine z_iload_n C0 hl 1 rfl dX11_meanLoudness_37 ?_
          refine z_invVi (As := [.int (zI (k21 : Int)), .int (zI x0)]) (rest := [.float u2]) C0 Wd (ct_X2_delayOfWay l g zX ad zM0 zF0 1 zB_1 V (k21 : Int) (zR_mk (by omega) (by omega)) x0 hx0 hR.B (by omega)) kv_X2_delayOfWay zN2 (zE_1 zK2) rfl zk_800 rfl hl.1 rfl (Nat.le_of_ble_eq_true rfl) (by decide) (by decide) dX11_meanLoudness_38 (fun r7 zMr7 zFr7 H locs hrr7 hp Wd => ?_)
          rcases hp with ⟨hr7_0_0, rfl, rfl, rfl⟩ | ⟨hr7_1_0, rfl, rfl, rfl⟩
          · skip
            refine z_invSf (As := [.int (zI (zBF V (k21 : Int) x0))]) (rest := [.float u2]) C0 Wd (ct_X11_loudnessAfter l g zX ad zM0 zF0 (zBF V (k21 : Int) x0) hrr7 (zBF_dl hI.2.2.2.2.1 ⟨by omega, by omega⟩ ⟨by omega, by omega⟩)) kv_X11_loudnessAfter zk_813 rfl hl.1 rfl (Nat.le_of_ble_eq_true rfl) (by decide) (by decide) dX11_meanLoudness_41 (fun r9 zMr9 zFr9 H locs hp Wd => ?_)
            obtain ⟨rfl, rfl, rfl⟩ := hp
            refine z_fadd C0 (zf_ok32 (by rw [hu, ← zLd_fl hI.2.2.2.2.1 ⟨by omega, by omega⟩]; exact zf_add32 (zMls_ok hI.2.2.2.2.1 ⟨by omega, by omega⟩ _) (zLd_ok hI.2.2.2.2.1 ⟨by omega, by omega⟩))) dX11_meanLoudness_44 ?_
            refine z_fstore_n C0 hl [(3, .float (FP.fadd u2 (zfl (zBF V (k21 : Int) x0)))), (0, .ref (ad 0)), (1, .int (zI x0)), (2, .int (zI (V 0))), (4, .int (zI (k21 : Int)))] (by decide) rfl dX11_meanLoudness_45 (fun ls hl => ?_)
            refine z_iinc C0 hl 4 (t := (k21 : Int)) (u := ((k21 : Int) + 1)) rfl (by omega) [(4, .int (zI ((k21 : Int) + 1))), (3, .float (FP.fadd u2 (zfl (zBF V (k21 : Int) x0)))), (0, .ref (ad 0)), (1, .int (zI x0)), (2, .int (zI (V 0)))] (by decide) rfl dX11_meanLoudness_46 (fun ls hl => ?_)
            refine z_goto C0 (tgt := 21) dX11_meanLoudness_49 (by decide) ?_
            exact ih21 (k21 + 1) (by omega) (FP.fadd u2 (zfl (zBF V (k21 : Int) x0))) (by rw [hu, ← zLd_fl hI.2.2.2.2.1 ⟨by omega, by omega⟩]; rfl) _ _ _ Wd (lv_sub hl [2, 3, 4, 1, 0] rfl)
          · skip
            exfalso; omega
    exact lp21 ((V 0)).toNat 0 (by omega) FP.fconst0 rfl _ _ _ Wd (lv_sub hl [3, 4, 2, 1, 0] rfl)
theorem kv_X11_deliveryFraction : zKV yX11_deliveryFraction cX11_deliveryFraction 2 (some .double) "DrumWarren" 0 := ⟨zk_1394, zk_1392, zk_1393, zk_25, by decide, by decide, by decide +kernel⟩
set_option maxHeartbeats 4000000 in
set_option maxRecDepth 100000 in
theorem ct_X11_deliveryFraction (l : Launch) (g : zG) (zX : va_W) (ad : Int → Nat) (zM0 zF0 : zMem) (V : Int → Int) (zt : Int) (hR : zRS 1 V zM0 zF0) (hI : zIV zt V) (ht : zt < 1000000000) : zMx l yX11_deliveryFraction cX11_deliveryFraction 2 (some .double) 8 1 6 g (0, 398, zX) ad [.ref (ad 0)] zM0 zF0 (zPd (fun r M' F' => ((V 6 + V 7 ≠ 0) ∧ (zDf V) = r ∧ zM0 = M' ∧ zF0 = F'))) (fun E M' F' => (E = "java/lang/ArithmeticException" ∧ V 6 + V 7 = 0) ∧ zM0 = M' ∧ zF0 = F') := by
  refine zMx.of "DrumWarren" rfl (by decide +kernel) (Nat.le_of_ble_eq_true rfl) (fun {p e s m args below meth c ls} C0 Wd hl hret hlk hin hst hno => ?_)
  have hl : lv_has ls 2 [(0, .ref (ad 0))] := hl
  have h0b := hI.1
  have h1b := hI.2.1
  have h2b := hI.2.2.1
  have h6b := hI.2.2.2.1 6 (by decide) (by decide)
  have h7b := hI.2.2.2.1 7 (by decide) (by decide)
  refine z_aload_n C0 hl 0 rfl dX11_deliveryFraction_0 ?_
  refine zg_8_0 C0 Wd zN0 zK0 zk_343 dX11_deliveryFraction_1 ?_
  refine zg_7_9 C0 Wd zN1 zK1 zk_211 dX11_deliveryFraction_4 ?_
  obtain ⟨he2, hz1⟩ : (zM0 1 9) = (V 6) ∧ zR (V 6) := (fun q => ⟨q, q ▸ Wd.rm _ _⟩) hR.c9
  refine z_top (congrArg zI he2) ?_
  clear he2
  refine z_aload_n C0 hl 0 rfl dX11_deliveryFraction_7 ?_
  refine zg_8_0 C0 Wd zN0 zK0 zk_343 dX11_deliveryFraction_8 ?_
  refine zg_7_10 C0 Wd zN1 zK1 zk_213 dX11_deliveryFraction_11 ?_
  obtain ⟨he4, hz3⟩ : (zM0 1 10) = (V 7) ∧ zR (V 7) := (fun q => ⟨q, q ▸ Wd.rm _ _⟩) hR.c10
  refine z_top (congrArg zI he4) ?_
  clear he4
  refine z_iadd C0 dX11_deliveryFraction_14 ?_
  refine z_istore_n C0 hl [(1, .int (zI ((V 6) + (V 7)))), (0, .ref (ad 0))] (by decide) rfl dX11_deliveryFraction_15 (fun ls hl => ?_)
  refine z_iload_n C0 hl 0 rfl dX11_deliveryFraction_16 ?_
  refine z_if_ne C0 (tgt := 31) (by have q0 := hz1.1; have p0 := hz1.2; have q1 := hz3.1; have p1 := hz3.2; exact zR_mk (by omega) (by omega)) dX11_deliveryFraction_17 (by decide) (fun c5 => ?_) (fun c5 => ?_)
  · skip
    refine z_aload_n C0 hl 1 rfl dX11_deliveryFraction_31 ?_
    refine zg_8_0 C0 Wd zN0 zK0 zk_343 dX11_deliveryFraction_32 ?_
    refine zg_7_9 C0 Wd zN1 zK1 zk_211 dX11_deliveryFraction_35 ?_
    obtain ⟨he7, hz6⟩ : (zM0 1 9) = (V 6) ∧ zR (V 6) := (fun q => ⟨q, q ▸ Wd.rm _ _⟩) hR.c9
    refine z_top (congrArg zI he7) ?_
    clear he7
    refine z_i2d C0 dX11_deliveryFraction_38 ?_
    refine z_iload_n C0 hl 0 rfl dX11_deliveryFraction_39 ?_
    refine z_i2d C0 dX11_deliveryFraction_40 ?_
    refine z_ddiv C0 (zf_ok64 (zDf_ok (V := V) (by omega) (by omega))) dX11_deliveryFraction_41 ?_
    exact z_xret (z_dret C0 Wd hret hlk ⟨by omega, rfl, rfl, rfl⟩ dX11_deliveryFraction_42) (by decide) (by decide)
  · skip
    exact z_throwE (k := 3) C0 Wd hst hl.1 zTh_R (zc_r C0 (q := ("DrumWarren", 276, "there were neither deliveries nor losses", 210)) (List.mem_of_getElem? (i := 22) rfl)) hno hlk dX11_deliveryFraction_20 dX11_deliveryFraction_23 (Or.inr ⟨rfl, dX11_deliveryFraction_24⟩) dX11_deliveryFraction_27 dX11_deliveryFraction_30 (by decide) (by decide) (by decide) (by decide) (by refine ⟨?_, rfl, rfl⟩; first | exact ⟨rfl, (by first | assumption | omega)⟩)
