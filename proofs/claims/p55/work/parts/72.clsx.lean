/-! the class: thumps heard, ticks until delivery -/
theorem kv_X11_thumpsHeard : zKV yX11_thumpsHeard cX11_thumpsHeard 3 (some .int) "DrumWarren" 2 := ⟨zk_1489, zk_1487, zk_1488, zk_25, by decide, by decide, by decide +kernel⟩
set_option maxHeartbeats 4000000 in
set_option maxRecDepth 100000 in
theorem ct_X11_thumpsHeard (l : Launch) (g : zG) (zX : va_W) (ad : Int → Nat) (zM0 zF0 : zMem) (V : Int → Int) (zt : Int) (x0 : Int) (hx0 : zR x0) (x1 : Int) (hx1 : zR x1) (hR : zRS 1 V zM0 zF0) (hI : zIV zt V) (ht : zt ≤ 100000000) : zMx l yX11_thumpsHeard cX11_thumpsHeard 3 (some .int) 8 2 12 g (0, 398, zX) ad [.ref (ad 0), .int (zI x0), .int (zI x1)] zM0 zF0 (zPi (fun r M' F' => ((zisC V x0 ∧ (V 4 - 20 ≤ x1 ∧ x1 ≤ V 4 + 80)) ∧ (V (472 + 128 * x0 + x1 % 128)) = r ∧ zM0 = M' ∧ zF0 = F'))) (fun E M' F' => (E = "java/lang/IndexOutOfBoundsException" ∧ ¬ (zisC V x0) ∨ E = "java/lang/IllegalArgumentException" ∧ zisC V x0 ∧ ¬ (V 4 - 20 ≤ x1 ∧ x1 ≤ V 4 + 80)) ∧ zM0 = M' ∧ zF0 = F') := by
  refine zMx.of "DrumWarren" rfl (by decide +kernel) (Nat.le_of_ble_eq_true rfl) (fun {p e s m args below meth c ls} C0 Wd hl hret hlk hin hst hno => ?_)
  have hl : lv_has ls 3 [(0, .ref (ad 0)), (1, .int (zI x0)), (2, .int (zI x1))] := hl
  have h0b := hI.1
  have h1b := hI.2.1
  have h2b := hI.2.2.1
  have h4b := hI.2.2.2.1 4 (by decide) (by decide)
  refine z_aload_n C0 hl 0 rfl dX11_thumpsHeard_0 ?_
  refine z_iload_n C0 hl 1 rfl dX11_thumpsHeard_1 ?_
  refine z_invVX (As := [.int (zI x0)]) (rest := []) C0 Wd hst hno hlk (ct_X11_checkChamber l g zX ad zM0 zF0 V zt x0 hx0 hR hI) kv_X11_checkChamber (zrecvW C0 Wd zN0 (zE_8 zK0) rfl) zk_785 rfl hl.1 rfl (Nat.le_of_ble_eq_true rfl) (by decide) (by decide) (by decide) (by decide) (fun E M9 F9 h9 => by obtain ⟨q1, q2, rfl, rfl⟩ := h9; refine ⟨?_, rfl, rfl⟩; first | exact (Or.inl ⟨q1, (by first | assumption | omega)⟩) | exact (Or.inr ⟨q1, (by first | assumption | omega)⟩)) dX11_thumpsHeard_2 (z_kkv (fun zMr1 zFr1 H locs hp Wd => ?_))
  rcases hp with ⟨hr1_0_0, rfl, rfl⟩
  · skip
    refine z_iload_n C0 hl 2 rfl dX11_thumpsHeard_5 ?_
    refine z_aload_n C0 hl 0 rfl dX11_thumpsHeard_6 ?_
    refine zg_8_0 C0 Wd zN0 zK0 zk_343 dX11_thumpsHeard_7 ?_
    refine zg_7_7 C0 Wd zN1 zK1 zk_207 dX11_thumpsHeard_10 ?_
    obtain ⟨he4, hz3⟩ : (zM0 1 7) = (V 4) ∧ zR (V 4) := (fun q => ⟨q, q ▸ Wd.rm _ _⟩) hR.c7
    refine z_top (congrArg zI he4) ?_
    clear he4
    refine z_bipush C0 dX11_thumpsHeard_13 (by decide) ?_
    refine z_isub C0 dX11_thumpsHeard_15 ?_
    refine z_icmp_lt C0 (tgt := 33) hx1 (by have q0 := hz3.1; have p0 := hz3.2; exact zR_mk (by omega) (by omega)) dX11_thumpsHeard_16 (by decide) (fun c5 => ?_) (fun c5 => ?_)
    · skip
      exact z_throwE (k := 3) C0 Wd hst hl.1 zTh_A (zc_r C0 (q := ("DrumWarren", 257, "the tick is too long ago or too far ahead", 209)) (List.mem_of_getElem? (i := 21) rfl)) hno hlk dX11_thumpsHeard_33 dX11_thumpsHeard_36 (Or.inr ⟨rfl, dX11_thumpsHeard_37⟩) dX11_thumpsHeard_40 dX11_thumpsHeard_43 (by decide) (by decide) (by decide) (by decide) (by refine ⟨?_, rfl, rfl⟩; first | exact (Or.inl ⟨rfl, (by first | assumption | omega)⟩) | exact (Or.inr ⟨rfl, (by first | assumption | omega)⟩))
    · skip
      refine z_iload_n C0 hl 2 rfl dX11_thumpsHeard_19 ?_
      refine z_aload_n C0 hl 0 rfl dX11_thumpsHeard_20 ?_
      refine zg_8_0 C0 Wd zN0 zK0 zk_343 dX11_thumpsHeard_21 ?_
      refine zg_7_7 C0 Wd zN1 zK1 zk_207 dX11_thumpsHeard_24 ?_
      obtain ⟨he7, hz6⟩ : (zM0 1 7) = (V 4) ∧ zR (V 4) := (fun q => ⟨q, q ▸ Wd.rm _ _⟩) hR.c7
      refine z_top (congrArg zI he7) ?_
      clear he7
      refine z_bipush C0 dX11_thumpsHeard_27 (by decide) ?_
      refine z_iadd C0 dX11_thumpsHeard_29 ?_
      refine z_icmp_le C0 (tgt := 44) hx1 (by have q0 := hz6.1; have p0 := hz6.2; exact zR_mk (by omega) (by omega)) dX11_thumpsHeard_30 (by decide) (fun c8 => ?_) (fun c8 => ?_)
      · skip
        refine z_aload_n C0 hl 0 rfl dX11_thumpsHeard_44 ?_
        refine zg_8_0 C0 Wd zN0 zK0 zk_343 dX11_thumpsHeard_45 ?_
        refine zg_7_6 C0 Wd zN1 zK1 zk_205 dX11_thumpsHeard_48 ?_
        refine z_rf (show (1 + 7) = 8 by decide) ?_
        refine z_iload_n C0 hl 1 rfl dX11_thumpsHeard_51 ?_
        refine z_iload_n C0 hl 2 rfl dX11_thumpsHeard_52 ?_
        refine z_invVi (As := [.int (zI x0), .int (zI x1)]) (rest := []) C0 Wd (ct_X1_thumpsIn l g zX ad zM0 zF0 1 zB_1 x0 hx0 x1 hx1 (by omega)) kv_X1_thumpsIn zN8 (zE_0 zK8) rfl zk_1491 rfl hl.1 rfl (Nat.le_of_ble_eq_true rfl) (by decide) (by decide) dX11_thumpsHeard_53 (fun r9 zMr9 zFr9 H locs hrr9 hp Wd => ?_)
        obtain ⟨rfl, rfl, rfl⟩ := hp
        exact z_xret (z_iret C0 Wd hret hlk hrr9 ⟨⟨by omega, by omega⟩, (by have q := hR.2.2.2.2.2.2 x0 x1 ⟨by omega, by omega⟩ (by omega) (by omega); rw [show 128 * x0 + x1 % 128 = x0 * 128 + x1 % 128 by omega] at q; exact q.symm), rfl, rfl⟩ dX11_thumpsHeard_56) (by decide) (by decide)
      · skip
        exact z_throwE (k := 3) C0 Wd hst hl.1 zTh_A (zc_r C0 (q := ("DrumWarren", 257, "the tick is too long ago or too far ahead", 209)) (List.mem_of_getElem? (i := 21) rfl)) hno hlk dX11_thumpsHeard_33 dX11_thumpsHeard_36 (Or.inr ⟨rfl, dX11_thumpsHeard_37⟩) dX11_thumpsHeard_40 dX11_thumpsHeard_43 (by decide) (by decide) (by decide) (by decide) (by refine ⟨?_, rfl, rfl⟩; first | exact (Or.inl ⟨rfl, (by first | assumption | omega)⟩) | exact (Or.inr ⟨rfl, (by first | assumption | omega)⟩))
theorem kv_X11_ticksUntilDelivery : zKV yX11_ticksUntilDelivery cX11_ticksUntilDelivery 5 (some .int) "DrumWarren" 1 := ⟨zk_1363, zk_1361, zk_1362, zk_25, by decide, by decide, by decide +kernel⟩
set_option maxHeartbeats 4000000 in
set_option maxRecDepth 100000 in
theorem ct_X11_ticksUntilDelivery (l : Launch) (g : zG) (zX : va_W) (ad : Int → Nat) (zM0 zF0 : zMem) (V : Int → Int) (zt : Int) (x0 : Int) (hx0 : zR x0) (hR : zRS 1 V zM0 zF0) (hI : zIV zt V) (hU : zId V) (hTD : zTD V) (hP : zP0 V) (hpp : zRp 32 zF0) (ht : zt ≤ 70000000) : zMx l yX11_ticksUntilDelivery cX11_ticksUntilDelivery 5 (some .int) 8 2 12 g (0, 398, zX) ad [.ref (ad 0), .int (zI x0)] zM0 zF0 (zPi (fun r M' F' => (zpl x0 V ≠ -1 ∧ ¬ ((V (96 + 47 * (zpl x0 V) + 4)) = 114 ∨ (V (96 + 47 * (zpl x0 V) + 4)) = 108)) ∧ zudn (zpl x0 V) V = r ∧ 0 ≤ r ∧ zOut 32 zM0 zF0 M' F' ∧ zF0 = F')) (fun E M' F' => (E = "java/util/NoSuchElementException" ∧ zpl x0 V = -1 ∧ zM0 = M' ∧ zF0 = F') ∨ (E = "java/lang/IllegalStateException" ∧ zpl x0 V ≠ -1 ∧ ((V (96 + 47 * (zpl x0 V) + 4)) = 114 ∨ (V (96 + 47 * (zpl x0 V) + 4)) = 108) ∧ zM0 = M' ∧ zF0 = F') ∨ (E = "java/lang/UnsupportedOperationException" ∧ (zpl x0 V ≠ -1 ∧ ¬ ((V (96 + 47 * (zpl x0 V) + 4)) = 114 ∨ (V (96 + 47 * (zpl x0 V) + 4)) = 108)) ∧ zudn (zpl x0 V) V = -1 ∧ zOut 32 zM0 zF0 M' F' ∧ zF0 = F')) := by
  refine zMx.of "DrumWarren" rfl (by decide +kernel) (Nat.le_of_ble_eq_true rfl) (fun {p e s m args below meth c ls} C0 Wd hl hret hlk hin hst hno => ?_)
  have hl : lv_has ls 5 [(0, .ref (ad 0)), (1, .int (zI x0))] := hl
  have h0b := hI.1
  have h1b := hI.2.1
  have h2b := hI.2.2.1
  refine z_aload_n C0 hl 0 rfl dX11_ticksUntilDelivery_0 ?_
  refine z_iload_n C0 hl 1 rfl dX11_ticksUntilDelivery_1 ?_
  refine z_invVX (As := [.int (zI x0)]) (rest := []) C0 Wd hst hno hlk (ct_X11_existing l g zX ad zM0 zF0 V zt x0 hx0 hR hI (by omega)) kv_X11_existing (zrecvW C0 Wd zN0 (zE_8 zK0) rfl) zk_890 rfl hl.1 rfl (Nat.le_of_ble_eq_true rfl) (by decide) (by decide) (by decide) (by decide) (fun E M9 F9 h9 => by obtain ⟨q1, q2, rfl, rfl⟩ := h9; exact Or.inl ⟨q1, by omega, rfl, rfl⟩) dX11_ticksUntilDelivery_2 (z_kkr (fun r1 zMr1 zFr1 H locs hp Wd => ?_))
  rcases hp with ⟨hr1_0_0, rfl, rfl, rfl⟩
  · skip
    have hpl : -1 ≤ zpl x0 V ∧ zpl x0 V < V 2 := by have := zlast_bd (P := fun q => V (96 + 47 * q + 0) = x0) (V 2).toNat; show -1 ≤ zlast _ _ ∧ zlast _ _ < V 2; omega
    have hm9 := hI.2.2.2.2.2.2.1 (zpl x0 V) (by omega) (by omega)
    refine zg_6_4 C0 Wd (znO (hR.mo (by omega) (by omega))) (zkO (hR.mo (by omega) (by omega))) zk_168 dX11_ticksUntilDelivery_5 ?_
    obtain ⟨he4, hz3⟩ : (zM0 (zF0 7 (zpl x0 V)) 4) = (V (96 + 47 * (zpl x0 V) + 4)) ∧ zR (V (96 + 47 * (zpl x0 V) + 4)) := (fun q => ⟨q, q ▸ Wd.rm _ _⟩) (hR.m4 (by omega) (by omega))
    refine z_top (congrArg zI he4) ?_
    clear he4
    refine z_istore_n C0 hl [(2, .int (zI (V (96 + 47 * (zpl x0 V) + 4)))), (0, .ref (ad 0)), (1, .int (zI x0))] (by decide) rfl dX11_ticksUntilDelivery_8 (fun ls hl => ?_)
    refine z_iload_n C0 hl 0 rfl dX11_ticksUntilDelivery_9 ?_
    refine z_bipush C0 dX11_ticksUntilDelivery_10 (by decide) ?_
    refine z_icmp_eq C0 (tgt := 21) hz3 (zR_mk (by decide) (by decide)) dX11_ticksUntilDelivery_12 (by decide) (fun c5 => ?_) (fun c5 => ?_)
    · skip
      exact z_throwE (k := 2) C0 Wd hst hl.1 zTh_S (zc_r C0 (q := ("DrumWarren", 228, "the message was delivered or is lost", 207)) (List.mem_of_getElem? (i := 19) rfl)) hno hlk dX11_ticksUntilDelivery_21 dX11_ticksUntilDelivery_24 (Or.inl ⟨rfl, dX11_ticksUntilDelivery_25⟩) dX11_ticksUntilDelivery_27 dX11_ticksUntilDelivery_30 (by decide) (by decide) (by decide) (by decide) (Or.inr (Or.inl ⟨rfl, by omega, by omega, rfl, rfl⟩))
    · skip
      refine z_iload_n C0 hl 0 rfl dX11_ticksUntilDelivery_15 ?_
      refine z_bipush C0 dX11_ticksUntilDelivery_16 (by decide) ?_
      refine z_icmp_ne C0 (tgt := 31) hz3 (zR_mk (by decide) (by decide)) dX11_ticksUntilDelivery_18 (by decide) (fun c6 => ?_) (fun c6 => ?_)
      · skip
        refine z_aload_n C0 hl 1 rfl dX11_ticksUntilDelivery_31 ?_
        refine zg_8_1 C0 Wd zN0 zK0 zk_344 dX11_ticksUntilDelivery_32 ?_
        refine z_aload_n C0 hl 1 rfl dX11_ticksUntilDelivery_35 ?_
        refine zg_8_0 C0 Wd zN0 zK0 zk_343 dX11_ticksUntilDelivery_36 ?_
        refine z_invVv (As := [.ref (ad 1)]) (rest := []) C0 Wd (ct_X10_copyFrom l g zX ad zM0 zF0 32 1 zB_32 zB_1 V zt hR hI hpp (by omega)) kv_X10_copyFrom zN32 (zE_7 zK32) rfl zk_1365 rfl hl.1 rfl (Nat.le_of_ble_eq_true rfl) (by decide) (by decide) dX11_ticksUntilDelivery_39 (fun zMr7 zFr7 H locs hp Wd => ?_)
        rcases hp with ⟨M1_r7, hr7_0_0, hr7_0_1, rfl, rfl⟩
        · skip
          refine z_aload_n C0 hl 1 rfl dX11_ticksUntilDelivery_42 ?_
          refine zg_8_1 C0 Wd zN0 zK0 zk_344 dX11_ticksUntilDelivery_43 ?_
          refine z_iload_n C0 hl 2 rfl dX11_ticksUntilDelivery_46 ?_
          refine z_invVi (As := [.int (zI x0)]) (rest := []) C0 Wd (ct_X10_positionOf l g zX ad M1_r7 zF0 32 zB_32 V zt x0 hx0 hr7_0_0 hI hU.ne) kv_X10_positionOf zN32 (zE_7 zK32) rfl zk_894 rfl hl.1 rfl (Nat.le_of_ble_eq_true rfl) (by decide) (by decide) dX11_ticksUntilDelivery_47 (fun r9 zMr9 zFr9 H locs hrr9 hp Wd => ?_)
          obtain ⟨rfl, rfl, rfl⟩ := hp
          refine z_istore_n C0 hl [(3, .int (zI (zpl x0 V))), (2, .int (zI (V (96 + 47 * (zpl x0 V) + 4)))), (0, .ref (ad 0)), (1, .int (zI x0))] (by decide) rfl dX11_ticksUntilDelivery_50 (fun ls hl => ?_)
          refine z_iconst C0 dX11_ticksUntilDelivery_51 ?_
          refine z_istore C0 hl [(4, .int (zI 1)), (3, .int (zI (zpl x0 V))), (2, .int (zI (V (96 + 47 * (zpl x0 V) + 4)))), (0, .ref (ad 0)), (1, .int (zI x0))] (by decide) rfl dX11_ticksUntilDelivery_52 (fun ls hl => ?_)
          have aft54 : ∀ (k54 : Nat) (hk54 : (k54 : Int) ≤ 61) (M2 : zMem) (w2 : Int → Int) (hw : w2 = zTks (k54 - 1) V) (hk1 : 1 ≤ k54) (hn : ∀ q, 0 ≤ q → q < (k54 : Int) → ¬ zsr (zpl x0 V) V q) (hs2 : zRS 32 w2 M2 zF0) (ho2 : zOut 32 zM0 zF0 M2 zF0) (hx54 : (k54 : Int) = 61) (H : Heap) (locs : List Loc) (ls : Array Slot) (Wd : zW g (zA (0, 398, zX) ad s.heap.size) s.heap (0, 398, zX) ad M2 zF0 H locs) (hl : lv_has ls 5 [(0, .ref (ad 0)), (1, .int (zI x0)), (2, .int (zI (V (96 + 47 * (zpl x0 V) + 4)))), (3, .int (zI (zpl x0 V))), (4, .int (zI (k54 : Int)))]), W p l e (zrm 8 2 12) s m args below meth c H locs 1 6 (zXQ below g (0, 398, zX) ad (zPi (fun r M' F' => (zpl x0 V ≠ -1 ∧ ¬ ((V (96 + 47 * (zpl x0 V) + 4)) = 114 ∨ (V (96 + 47 * (zpl x0 V) + 4)) = 108)) ∧ zudn (zpl x0 V) V = r ∧ 0 ≤ r ∧ zOut 32 zM0 zF0 M' F' ∧ zF0 = F')) (fun E M' F' => (E = "java/util/NoSuchElementException" ∧ zpl x0 V = -1 ∧ zM0 = M' ∧ zF0 = F') ∨ (E = "java/lang/IllegalStateException" ∧ zpl x0 V ≠ -1 ∧ ((V (96 + 47 * (zpl x0 V) + 4)) = 114 ∨ (V (96 + 47 * (zpl x0 V) + 4)) = 108) ∧ zM0 = M' ∧ zF0 = F') ∨ (E = "java/lang/UnsupportedOperationException" ∧ (zpl x0 V ≠ -1 ∧ ¬ ((V (96 + 47 * (zpl x0 V) + 4)) = 114 ∨ (V (96 + 47 * (zpl x0 V) + 4)) = 108)) ∧ zudn (zpl x0 V) V = -1 ∧ zOut 32 zM0 zF0 M' F' ∧ zF0 = F')) args s 2 12) (F0 m 88 ls []) := by
            intro k54 hk54 M2 w2 hw hk1 hn hs2 ho2 hx54 H locs ls Wd hl
            replace hl : lv_has ls 5 [(0, .ref (ad 0)), (1, .int (zI x0)), (2, .int (zI (V (96 + 47 * (zpl x0 V) + 4)))), (3, .int (zI (zpl x0 V)))] := lv_sub hl [0, 1, 2, 3] rfl
            exact z_throwE (k := 2) C0 Wd hst hl.1 zTh_U (zc_r C0 (q := ("DrumWarren", 245, "the message is not delivered within 60 ticks", 208)) (List.mem_of_getElem? (i := 20) rfl)) hno hlk dX11_ticksUntilDelivery_88 dX11_ticksUntilDelivery_91 (Or.inl ⟨rfl, dX11_ticksUntilDelivery_92⟩) dX11_ticksUntilDelivery_94 dX11_ticksUntilDelivery_97 (by decide) (by decide) (by decide) (by decide) (Or.inr (Or.inr ⟨rfl, by omega, (zudn_is (k := 60) (by decide) (fun q q0 q1 => hn q q0 (by omega))).2 rfl (hn 60 (by decide) (by omega)), ho2, rfl⟩))
          have lp54 : ∀ (d54 k54 : Nat) (hk54 : (k54 : Int) + d54 = 61) (M2 : zMem) (w2 : Int → Int) (hw : w2 = zTks (k54 - 1) V) (hk1 : 1 ≤ k54) (hn : ∀ q, 0 ≤ q → q < (k54 : Int) → ¬ zsr (zpl x0 V) V q) (hs2 : zRS 32 w2 M2 zF0) (ho2 : zOut 32 zM0 zF0 M2 zF0) (H : Heap) (locs : List Loc) (ls : Array Slot) (Wd : zW g (zA (0, 398, zX) ad s.heap.size) s.heap (0, 398, zX) ad M2 zF0 H locs) (hl : lv_has ls 5 [(0, .ref (ad 0)), (1, .int (zI x0)), (2, .int (zI (V (96 + 47 * (zpl x0 V) + 4)))), (3, .int (zI (zpl x0 V))), (4, .int (zI (k54 : Int)))]), W p l e (zrm 8 2 12) s m args below meth c H locs 1 6 (zXQ below g (0, 398, zX) ad (zPi (fun r M' F' => (zpl x0 V ≠ -1 ∧ ¬ ((V (96 + 47 * (zpl x0 V) + 4)) = 114 ∨ (V (96 + 47 * (zpl x0 V) + 4)) = 108)) ∧ zudn (zpl x0 V) V = r ∧ 0 ≤ r ∧ zOut 32 zM0 zF0 M' F' ∧ zF0 = F')) (fun E M' F' => (E = "java/util/NoSuchElementException" ∧ zpl x0 V = -1 ∧ zM0 = M' ∧ zF0 = F') ∨ (E = "java/lang/IllegalStateException" ∧ zpl x0 V ≠ -1 ∧ ((V (96 + 47 * (zpl x0 V) + 4)) = 114 ∨ (V (96 + 47 * (zpl x0 V) + 4)) = 108) ∧ zM0 = M' ∧ zF0 = F') ∨ (E = "java/lang/UnsupportedOperationException" ∧ (zpl x0 V ≠ -1 ∧ ¬ ((V (96 + 47 * (zpl x0 V) + 4)) = 114 ∨ (V (96 + 47 * (zpl x0 V) + 4)) = 108)) ∧ zudn (zpl x0 V) V = -1 ∧ zOut 32 zM0 zF0 M' F' ∧ zF0 = F')) args s 2 12) (F0 m 54 ls []) := by
            intro d54
            induction d54 with
            | zero =>
              intro k54 hk54 M2 w2 hw hk1 hn hs2 ho2 H locs ls Wd hl
              obtain ⟨hI2, hTD2, hk2, hk4⟩ := zTks_keep hI hTD (k54 - 1)
              have hP2 := zTks_pk hI hTD hP (k54 - 1)
              rw [← hw] at hI2 hTD2 hk2 hk4 hP2
              refine z_iload C0 hl 4 rfl dX11_ticksUntilDelivery_54 ?_
              refine z_bipush C0 dX11_ticksUntilDelivery_56 (by decide) ?_
              refine z_icmp_gt C0 (tgt := 88) (zR_mk (by omega) (by omega)) (zR_mk (by decide) (by decide)) dX11_ticksUntilDelivery_58 (by decide) (fun c11 => ?_) (fun c11 => ?_)
              · skip
                first | exact aft54 k54 (by omega) M2 w2 hw hk1 hn hs2 ho2 (by first | assumption | omega) _ _ _ Wd (lv_sub hl [0, 1, 2, 3, 4] rfl) | (exfalso; omega)
              · skip
                exfalso; omega
            | succ d54 ih54 =>
              intro k54 hk54 M2 w2 hw hk1 hn hs2 ho2 H locs ls Wd hl
              obtain ⟨hI2, hTD2, hk2, hk4⟩ := zTks_keep hI hTD (k54 - 1)
              have hP2 := zTks_pk hI hTD hP (k54 - 1)
              rw [← hw] at hI2 hTD2 hk2 hk4 hP2
              refine z_iload C0 hl 4 rfl dX11_ticksUntilDelivery_54 ?_
              refine z_bipush C0 dX11_ticksUntilDelivery_56 (by decide) ?_
              refine z_icmp_gt C0 (tgt := 88) (zR_mk (by omega) (by omega)) (zR_mk (by decide) (by decide)) dX11_ticksUntilDelivery_58 (by decide) (fun c12 => ?_) (fun c12 => ?_)
              · skip
                first | exact aft54 k54 (by omega) M2 w2 hw hk1 hn hs2 ho2 (by first | assumption | omega) _ _ _ Wd (lv_sub hl [0, 1, 2, 3, 4] rfl) | (exfalso; omega)
              · skip
                refine z_aload_n C0 hl 0 rfl dX11_ticksUntilDelivery_61 ?_
                refine zg_8_1 C0 Wd zN0 zK0 zk_344 dX11_ticksUntilDelivery_62 ?_
                refine z_invVv (As := []) (rest := []) C0 Wd (ct_X10_passOneTick l g zX ad M2 zF0 32 zB_32 w2 (zt + 17 * ((k54 - 1 : Nat) : Int)) hs2 hI2 hTD2 hP2 (by omega)) kv_X10_passOneTick zN32 (zE_7 zK32) rfl zk_1366 rfl hl.1 rfl (Nat.le_of_ble_eq_true rfl) (by decide) (by decide) dX11_ticksUntilDelivery_65 (fun zMr13 zFr13 H locs hp Wd => ?_)
                rcases hp with ⟨M1_r13, hr13_0_0, hr13_0_1, rfl, rfl⟩
                · skip
                  have hw9 : zTick w2 = zTks k54 V := by rw [show k54 = (k54 - 1) + 1 by omega]; show _ = zTick (zTks (k54 - 1) V); rw [← hw]
                  obtain ⟨hI3, hTD3, hk3, hk5⟩ := zTks_keep hI hTD k54
                  rw [← hw9] at hI3 hTD3 hk3 hk5
                  have hsr : zsr (zpl x0 V) V (k54 : Int) ↔ (zTick w2) (96 + 47 * (zpl x0 V) + 4) = 114 := by unfold zsr; rw [show ((k54 : Int)).toNat = k54 by omega, ← hw9]
                  have e29 := hk3 2 (by decide)
                  refine z_aload_n C0 hl 0 rfl dX11_ticksUntilDelivery_68 ?_
                  refine zg_8_1 C0 Wd zN0 zK0 zk_344 dX11_ticksUntilDelivery_69 ?_
                  refine z_iload_n C0 hl 3 rfl dX11_ticksUntilDelivery_72 ?_
                  refine z_invVi (As := [.int (zI (zpl x0 V))]) (rest := []) C0 Wd (ct_X10_isDelivered l g zX ad M1_r13 zF0 32 zB_32 (zTick w2) (zt + 17 * (k54 : Int)) (zpl x0 V) hrr9 hr13_0_0 hI3) kv_X10_isDelivered zN32 (zE_7 zK32) rfl zk_1367 rfl hl.1 rfl (Nat.le_of_ble_eq_true rfl) (by decide) (by decide) dX11_ticksUntilDelivery_73 (fun r15 zMr15 zFr15 H locs hrr15 hp Wd => ?_)
                  obtain ⟨rfl, rfl, rfl⟩ := hp
                  refine z_if_eq_b C0 (tgt := 82) dX11_ticksUntilDelivery_76 (by decide) (fun c17 => ?_) (fun c17 => ?_)
                  · skip
                    refine z_iinc C0 hl 4 (t := (k54 : Int)) (u := ((k54 : Int) + 1)) rfl (by omega) [(4, .int (zI ((k54 : Int) + 1))), (0, .ref (ad 0)), (1, .int (zI x0)), (2, .int (zI (V (96 + 47 * (zpl x0 V) + 4)))), (3, .int (zI (zpl x0 V)))] (by decide) rfl dX11_ticksUntilDelivery_82 (fun ls hl => ?_)
                    refine z_goto C0 (tgt := 54) dX11_ticksUntilDelivery_85 (by decide) ?_
                    exact ih54 (k54 + 1) (by omega) M1_r13 (zTick w2) (by rw [show k54 + 1 - 1 = k54 by omega]; exact hw9) (by omega) (fun q q0 q1 => by by_cases e : q = (k54 : Int) <;> first | (rw [e, hsr]; omega) | exact hn q q0 (by omega)) hr13_0_0 (zOut_tr ho2 hr13_0_1) _ _ _ Wd (lv_sub hl [1, 2, 3, 4, 0] rfl)
                  · skip
                    refine z_iload C0 hl 4 rfl dX11_ticksUntilDelivery_79 ?_
                    exact z_xret (z_iret C0 Wd hret hlk (zR_mk (by omega) (by omega)) ⟨by omega, (zudn_is (k := k54) (by omega) hn).1 (hsr.mpr (by omega)), by omega, zOut_tr ho2 hr13_0_1, rfl⟩ dX11_ticksUntilDelivery_81) (by decide) (by decide)
          exact lp54 60 1 (by omega) M1_r7 V rfl (by decide) (fun q q0 q1 => by rw [show q = 0 by omega]; show ¬ V (96 + 47 * zpl x0 V + 4) = 114; omega) hr7_0_0 hr7_0_1 _ _ _ Wd (lv_sub hl [3, 4, 2, 1, 0] rfl)
      · skip
        exact z_throwE (k := 2) C0 Wd hst hl.1 zTh_S (zc_r C0 (q := ("DrumWarren", 228, "the message was delivered or is lost", 207)) (List.mem_of_getElem? (i := 19) rfl)) hno hlk dX11_ticksUntilDelivery_21 dX11_ticksUntilDelivery_24 (Or.inl ⟨rfl, dX11_ticksUntilDelivery_25⟩) dX11_ticksUntilDelivery_27 dX11_ticksUntilDelivery_30 (by decide) (by decide) (by decide) (by decide) (Or.inr (Or.inl ⟨rfl, by omega, by omega, rfl, rfl⟩))
