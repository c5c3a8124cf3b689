/-! the class: bits of a loudness -/
theorem kv_X11_bitsOf : zKS yX11_bitsOf cX11_bitsOf 4 (some .int) 1 := ⟨zk_844, zk_843, zk_25, by decide, by decide, by decide +kernel⟩
set_option maxHeartbeats 4000000 in
set_option maxRecDepth 100000 in
theorem ct_X11_bitsOf (l : Launch) (g : zG) (zX : va_W) (ad : Int → Nat) (zM0 zF0 : zMem) (d : Int) (x0 : UInt32) (hd : d = 1000 ∨ (0 ≤ d ∧ d ≤ 63)) (hx : x0 = zfl d) : zMt l yX11_bitsOf cX11_bitsOf 4 (some .int) 0 0 0 g (0, 398, zX) ad [.float x0] zM0 zF0 (zPi (fun r M' F' => (zfl d).toInt32.toInt = r ∧ zM0 = M' ∧ zF0 = F')) := by
  refine zMt.of "DrumWarren" rfl (by decide +kernel) (Nat.le_of_ble_eq_true rfl) (fun {p e s m args below meth c ls} C0 Wd hl hret hlk hin => ?_)
  have hl : lv_has ls 4 [(0, .float x0)] := hl
  refine z_fload_n C0 hl 0 rfl dX11_bitsOf_0 ?_
  refine z_fconst0 C0 dX11_bitsOf_1 ?_
  refine z_fcmp C0 (v := (zcz x0)) (zI_of _).symm dX11_bitsOf_2 ?_
  refine z_if_gt C0 (tgt := 8) (zR_of _) dX11_bitsOf_3 (by decide) (fun c1 => ?_) (fun c1 => ?_)
  · skip
    have hd2 : (0 ≤ d ∧ d ≤ 63) := by rcases hd with z | z <;> first | exact z | (exfalso; rw [hx, z, zbt_0.1] at c1; omega)
    have hn6 := zbn_6 d
    have hT3 := zfin (P := fun d => 0 ≤ zcv (zbf (zfl d) (zbn d))) zbt_3 hd2
    have hT2 := fun (k : Nat) (h7 : k < 7) => zfin7 (P := fun d k => k < zbn d → zcv (zbf (zfl d) k) < 0) zbt_2 hd2 h7
    have hT4 := fun (k : Nat) (h7 : k < 7) => zfin7 (P := fun d k => k < zbn d → vf_n32 (FP.fmul (zbf (zfl d) k) FP.fconst2)) zbt_4 hd2 h7
    have hT5 := zfin (P := fun d => vf_n32 (FP.fsub (zbf (zfl d) (zbn d)) FP.fconst1) ∧ vf_n32 (zfm (zbf (zfl d) (zbn d)))) zbt_5 hd2
    have hT6 := zfin (P := fun d => (127 - (zbn d : Int)) * 8388608 + zfi (zbf (zfl d) (zbn d)) = (zfl d).toInt32.toInt) zbt_6 hd2
    rw [← hx] at hT3 hT2 hT4 hT5 hT6
    refine z_fload_n C0 hl 0 rfl dX11_bitsOf_8 ?_
    refine z_fstore_n C0 hl [(1, .float x0), (0, .float x0)] (by decide) rfl dX11_bitsOf_9 (fun ls hl => ?_)
    refine z_bipush C0 dX11_bitsOf_10 (by decide) ?_
    refine z_istore_n C0 hl [(2, .int (zI 127)), (1, .float x0), (0, .float x0)] (by decide) rfl dX11_bitsOf_12 (fun ls hl => ?_)
    refine z_iconst C0 dX11_bitsOf_13 ?_
    refine z_istore_n C0 hl [(3, .int (zI 0)), (2, .int (zI 127)), (1, .float x0), (0, .float x0)] (by decide) rfl dX11_bitsOf_14 (fun ls hl => ?_)
    have aft15 : ∀ (k15 : Nat) (hk15 : (k15 : Int) ≤ 126) (u1 : UInt32) (e2 : Int) (hu : u1 = zbf x0 k15) (he : e2 = 127 - (k15 : Int)) (hkn : k15 ≤ zbn d) (hxe : 0 ≤ zcv u1) (H : Heap) (locs : List Loc) (ls : Array Slot) (Wd : zW g (zA (0, 398, zX) ad s.heap.size) s.heap (0, 398, zX) ad zM0 zF0 H locs) (hl : lv_has ls 4 [(0, .float x0), (1, .float u1), (2, .int (zI e2)), (3, .int (zI (k15 : Int)))]), W p l e (zrm 0 0 0) s m args below meth c H locs 0 0 (zMQ below g (0, 398, zX) ad (zPi (fun r M' F' => (zfl d).toInt32.toInt = r ∧ zM0 = M' ∧ zF0 = F')) args s 0 0) (F0 m 40 ls []) := by
      intro k15 hk15 u1 e2 hu he hkn hxe H locs ls Wd hl
      replace hl : lv_has ls 4 [(0, .float x0), (1, .float u1), (2, .int (zI e2))] := lv_sub hl [0, 1, 2] rfl
      have ekn : k15 = zbn d := by
              by_cases z : k15 < zbn d
              · have := hT2 k15 (by omega) z
                rw [← hu] at this
                omega
              · omega
      refine z_iload_n C0 hl 2 rfl dX11_bitsOf_40 ?_
      refine z_bipush C0 dX11_bitsOf_41 (by decide) ?_
      refine z_ishl C0 (v := (e2 * 8388608)) (zI_shl23 (by omega) (by omega)) dX11_bitsOf_43 ?_
      refine z_fload_n C0 hl 1 rfl dX11_bitsOf_44 ?_
      refine z_fconst1 C0 dX11_bitsOf_45 ?_
      refine z_fsub C0 (by rw [hu, ekn]; exact hT5.1) dX11_bitsOf_46 ?_
      refine z_ldcwF C0 zk_845 dX11_bitsOf_47 ?_
      refine z_fmul C0 (by rw [hu, ekn]; exact hT5.2) dX11_bitsOf_50 ?_
      refine z_f2i C0 (v := (zfi u1)) (zI_of _).symm dX11_bitsOf_51 ?_
      refine z_iadd C0 dX11_bitsOf_52 ?_
      have hv : ((e2 * 8388608) + (zfi u1)) = x0.toInt32.toInt := by rw [← hT6, ← ekn, ← hu, he]
      have hr9 : zR ((e2 * 8388608) + (zfi u1)) := by rw [hv]; exact zR_of _
      exact z_iret C0 Wd hret hlk hr9 ⟨by rw [← hx]; exact hv.symm, rfl, rfl⟩ dX11_bitsOf_53
    have lp15 : ∀ (d15 k15 : Nat) (hk15 : (k15 : Int) + d15 = 126) (u1 : UInt32) (e2 : Int) (hu : u1 = zbf x0 k15) (he : e2 = 127 - (k15 : Int)) (hkn : k15 ≤ zbn d) (H : Heap) (locs : List Loc) (ls : Array Slot) (Wd : zW g (zA (0, 398, zX) ad s.heap.size) s.heap (0, 398, zX) ad zM0 zF0 H locs) (hl : lv_has ls 4 [(0, .float x0), (1, .float u1), (2, .int (zI e2)), (3, .int (zI (k15 : Int)))]), W p l e (zrm 0 0 0) s m args below meth c H locs 0 0 (zMQ below g (0, 398, zX) ad (zPi (fun r M' F' => (zfl d).toInt32.toInt = r ∧ zM0 = M' ∧ zF0 = F')) args s 0 0) (F0 m 15 ls []) := by
      intro d15
      induction d15 with
      | zero =>
        intro k15 hk15 u1 e2 hu he hkn H locs ls Wd hl
        refine z_iload_n C0 hl 3 rfl dX11_bitsOf_15 ?_
        refine z_bipush C0 dX11_bitsOf_16 (by decide) ?_
        refine z_icmp_ge C0 (tgt := 40) (zR_mk (by omega) (by omega)) (zR_mk (by decide) (by decide)) dX11_bitsOf_18 (by decide) (fun c2 => ?_) (fun c2 => ?_)
        · skip
          first | exact aft15 k15 (by omega) u1 e2 hu he hkn (by first | assumption | omega) _ _ _ Wd (lv_sub hl [0, 1, 2, 3] rfl) | (exfalso; omega)
        · skip
          exfalso; omega
      | succ d15 ih15 =>
        intro k15 hk15 u1 e2 hu he hkn H locs ls Wd hl
        refine z_iload_n C0 hl 3 rfl dX11_bitsOf_15 ?_
        refine z_bipush C0 dX11_bitsOf_16 (by decide) ?_
        refine z_icmp_ge C0 (tgt := 40) (zR_mk (by omega) (by omega)) (zR_mk (by decide) (by decide)) dX11_bitsOf_18 (by decide) (fun c3 => ?_) (fun c3 => ?_)
        · skip
          first | exact aft15 k15 (by omega) u1 e2 hu he hkn (by first | assumption | omega) _ _ _ Wd (lv_sub hl [0, 1, 2, 3] rfl) | (exfalso; omega)
        · skip
          refine z_fload_n C0 hl 1 rfl dX11_bitsOf_21 ?_
          refine z_fconst1 C0 dX11_bitsOf_22 ?_
          refine z_fcmp C0 (v := (zcv u1)) (zI_of _).symm dX11_bitsOf_23 ?_
          refine z_if_ge C0 (tgt := 40) (zR_of _) dX11_bitsOf_24 (by decide) (fun c4 => ?_) (fun c4 => ?_)
          · skip
            first | exact aft15 k15 (by omega) u1 e2 hu he hkn (by first | assumption | omega) _ _ _ Wd (lv_sub hl [0, 1, 2, 3] rfl) | (exfalso; omega)
          · skip
            refine z_fload_n C0 hl 1 rfl dX11_bitsOf_27 ?_
            refine z_fconst2 C0 dX11_bitsOf_28 ?_
            refine z_fmul C0 (by rw [hu]; exact hT4 _ (by omega) (by have : k15 ≠ zbn d := (fun z => by rw [← z, ← hu] at hT3; omega); omega)) dX11_bitsOf_29 ?_
            refine z_fstore_n C0 hl [(1, .float (FP.fmul u1 FP.fconst2)), (0, .float x0), (2, .int (zI e2)), (3, .int (zI (k15 : Int)))] (by decide) rfl dX11_bitsOf_30 (fun ls hl => ?_)
            refine z_iinc C0 hl 2 (t := e2) (u := (e2 - 1)) rfl (by omega) [(2, .int (zI (e2 - 1))), (1, .float (FP.fmul u1 FP.fconst2)), (0, .float x0), (3, .int (zI (k15 : Int)))] (by decide) rfl dX11_bitsOf_31 (fun ls hl => ?_)
            refine z_iinc C0 hl 3 (t := (k15 : Int)) (u := ((k15 : Int) + 1)) rfl (by omega) [(3, .int (zI ((k15 : Int) + 1))), (2, .int (zI (e2 - 1))), (1, .float (FP.fmul u1 FP.fconst2)), (0, .float x0)] (by decide) rfl dX11_bitsOf_34 (fun ls hl => ?_)
            refine z_goto C0 (tgt := 15) dX11_bitsOf_37 (by decide) ?_
            exact ih15 (k15 + 1) (by omega) (FP.fmul u1 FP.fconst2) (e2 - 1) (by rw [hu]; rfl) (by omega) (by have : k15 ≠ zbn d := (fun z => by rw [← z, ← hu] at hT3; omega); omega) _ _ _ Wd (lv_sub hl [3, 2, 1, 0] rfl)
    exact lp15 126 0 (by omega) x0 127 rfl (by decide) (by omega) _ _ _ Wd (lv_sub hl [3, 2, 1, 0] rfl)
  · skip
    refine z_iconst C0 dX11_bitsOf_6 ?_
    exact z_iret C0 Wd hret hlk (zR_mk (by decide) (by decide)) ⟨by rcases hd with z | z <;> first | (rw [z]; exact zbt_0.2) | (exfalso; rw [hx, zfin (P := fun d => zcz (zfl d) = 1) zbt_1 z] at c1; omega), rfl, rfl⟩ dX11_bitsOf_7
theorem kv_X11_loudnessBits : zKV yX11_loudnessBits cX11_loudnessBits 3 (some .int) "DrumWarren" 2 := ⟨zk_841, zk_839, zk_840, zk_25, by decide, by decide, by decide +kernel⟩
set_option maxHeartbeats 4000000 in
set_option maxRecDepth 100000 in
theorem ct_X11_loudnessBits (l : Launch) (g : zG) (zX : va_W) (ad : Int → Nat) (zM0 zF0 : zMem) (V : Int → Int) (zt : Int) (x0 : Int) (hx0 : zR x0) (x1 : Int) (hx1 : zR x1) (hR : zRS 1 V zM0 zF0) (hI : zIV zt V) : zMx l yX11_loudnessBits cX11_loudnessBits 3 (some .int) 8 2 12 g (0, 398, zX) ad [.ref (ad 0), .int (zI x0), .int (zI x1)] zM0 zF0 (zPi (fun r M' F' => (((zisC V x0 ∧ zisC V x1)) ∧ (zLd x0 x1 V).toInt32.toInt = r ∧ zM0 = M' ∧ zF0 = F'))) (fun E M' F' => (E = "java/lang/IndexOutOfBoundsException" ∧ ¬ (zisC V x0 ∧ zisC V x1)) ∧ zM0 = M' ∧ zF0 = F') := by
  refine zMx.of "DrumWarren" rfl (by decide +kernel) (Nat.le_of_ble_eq_true rfl) (fun {p e s m args below meth c ls} C0 Wd hl hret hlk hin hst hno => ?_)
  have hl : lv_has ls 3 [(0, .ref (ad 0)), (1, .int (zI x0)), (2, .int (zI x1))] := hl
  have h0b := hI.1
  have h1b := hI.2.1
  have h2b := hI.2.2.1
  refine z_aload_n C0 hl 0 rfl dX11_loudnessBits_0 ?_
  refine z_iload_n C0 hl 1 rfl dX11_loudnessBits_1 ?_
  refine z_invVX (As := [.int (zI x0)]) (rest := []) C0 Wd hst hno hlk (ct_X11_checkChamber l g zX ad zM0 zF0 V zt x0 hx0 hR hI) kv_X11_checkChamber (zrecvW C0 Wd zN0 (zE_8 zK0) rfl) zk_785 rfl hl.1 rfl (Nat.le_of_ble_eq_true rfl) (by decide) (by decide) (by decide) (by decide) (fun E M9 F9 h9 => by obtain ⟨q1, q2, rfl, rfl⟩ := h9; refine ⟨?_, rfl, rfl⟩; first | exact ⟨q1, (by first | assumption | omega)⟩) dX11_loudnessBits_2 (z_kkv (fun zMr1 zFr1 H locs hp Wd => ?_))
  rcases hp with ⟨hr1_0_0, rfl, rfl⟩
  · skip
    refine z_aload_n C0 hl 0 rfl dX11_loudnessBits_5 ?_
    refine z_iload_n C0 hl 2 rfl dX11_loudnessBits_6 ?_
    refine z_invVX (As := [.int (zI x1)]) (rest := []) C0 Wd hst hno hlk (ct_X11_checkChamber l g zX ad zM0 zF0 V zt x1 hx1 hR hI) kv_X11_checkChamber (zrecvW C0 Wd zN0 (zE_8 zK0) rfl) zk_785 rfl hl.1 rfl (Nat.le_of_ble_eq_true rfl) (by decide) (by decide) (by decide) (by decide) (fun E M9 F9 h9 => by obtain ⟨q1, q2, rfl, rfl⟩ := h9; refine ⟨?_, rfl, rfl⟩; first | exact ⟨q1, (by first | assumption | omega)⟩) dX11_loudnessBits_7 (z_kkv (fun zMr3 zFr3 H locs hp Wd => ?_))
    rcases hp with ⟨hr3_0_0, rfl, rfl⟩
    · skip
      refine z_aload_n C0 hl 0 rfl dX11_loudnessBits_10 ?_
      refine zg_8_0 C0 Wd zN0 zK0 zk_343 dX11_loudnessBits_11 ?_
      refine zg_7_0 C0 Wd zN1 zK1 zk_194 dX11_loudnessBits_14 ?_
      refine z_rf (show (1 + 1) = 2 by decide) ?_
      refine z_iload_n C0 hl 1 rfl dX11_loudnessBits_17 ?_
      refine z_iload_n C0 hl 2 rfl dX11_loudnessBits_18 ?_
      refine z_invVi (As := [.int (zI x0), .int (zI x1)]) (rest := []) C0 Wd (ct_X2_delayOfWay l g zX ad zM0 zF0 1 zB_1 V x0 hx0 x1 hx1 hR.B (by omega)) kv_X2_delayOfWay zN2 (zE_1 zK2) rfl zk_800 rfl hl.1 rfl (Nat.le_of_ble_eq_true rfl) (by decide) (by decide) dX11_loudnessBits_19 (fun r5 zMr5 zFr5 H locs hrr5 hp Wd => ?_)
      rcases hp with ⟨hr5_0_0, rfl, rfl, rfl⟩ | ⟨hr5_1_0, rfl, rfl, rfl⟩
      · skip
        refine z_invSf (As := [.int (zI (zBF V x0 x1))]) (rest := []) C0 Wd (ct_X11_loudnessAfter l g zX ad zM0 zF0 (zBF V x0 x1) hrr5 (zBF_dl hI.2.2.2.2.1 ⟨by omega, by omega⟩ ⟨by omega, by omega⟩)) kv_X11_loudnessAfter zk_813 rfl hl.1 rfl (Nat.le_of_ble_eq_true rfl) (by decide) (by decide) dX11_loudnessBits_22 (fun r7 zMr7 zFr7 H locs hp Wd => ?_)
        obtain ⟨rfl, rfl, rfl⟩ := hp
        refine z_invSi (As := [.float (zfl (zBF V x0 x1))]) (rest := []) C0 Wd (ct_X11_bitsOf l g zX ad zM0 zF0 (zBF V x0 x1) (zfl (zBF V x0 x1)) (zBF_dl hI.2.2.2.2.1 ⟨by omega, by omega⟩ ⟨by omega, by omega⟩) rfl) kv_X11_bitsOf zk_842 rfl hl.1 rfl (Nat.le_of_ble_eq_true rfl) (by decide) (by decide) dX11_loudnessBits_25 (fun r9 zMr9 zFr9 H locs hrr9 hp Wd => ?_)
        obtain ⟨rfl, rfl, rfl⟩ := hp
        exact z_xret (z_iret C0 Wd hret hlk hrr9 ⟨by omega, (by rw [zLd_fl hI.2.2.2.2.1 ⟨by omega, by omega⟩]), rfl, rfl⟩ dX11_loudnessBits_28) (by decide) (by decide)
      · skip
        exfalso; omega
