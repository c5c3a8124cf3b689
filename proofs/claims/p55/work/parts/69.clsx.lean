/-! the class: ranks, undo, save, restore -/
theorem kv_X10_haresAheadOf : zKV yX10_haresAheadOf cX10_haresAheadOf 5 (some .int) "DrumWarren$State" 1 := ⟨zk_916, zk_914, zk_915, zk_26, by decide, by decide, by decide +kernel⟩
set_option maxHeartbeats 4000000 in
set_option maxRecDepth 100000 in
theorem ct_X10_haresAheadOf (l : Launch) (g : zG) (zX : va_W) (ad : Int → Nat) (zM0 zF0 : zMem) (b : Int) (hb : zB b) (V : Int → Int) (zt : Int) (x0 : Int) (hx0 : zR x0) (hR : zRS b V zM0 zF0) (hI : zIV zt V) (hx : zisH V x0) : zMt l yX10_haresAheadOf cX10_haresAheadOf 5 (some .int) 2 0 0 g (0, 398, zX) ad [.ref (ad b), .int (zI x0)] zM0 zF0 (zPi (fun r M' F' => (zrnk V x0) = r ∧ zM0 = M' ∧ zF0 = F')) := by
  refine zMt.of "DrumWarren$State" rfl (by decide +kernel) (Nat.le_of_ble_eq_true rfl) (fun {p e s m args below meth c ls} C0 Wd hl hret hlk hin => ?_)
  have hl : lv_has ls 5 [(0, .ref (ad b)), (1, .int (zI x0))] := hl
  have h0b := hI.1
  have h1b := hI.2.1
  have h2b := hI.2.2.1
  refine z_iconst C0 dX10_haresAheadOf_0 ?_
  refine z_istore_n C0 hl [(2, .int (zI 0)), (0, .ref (ad b)), (1, .int (zI x0))] (by decide) rfl dX10_haresAheadOf_1 (fun ls hl => ?_)
  refine z_iconst C0 dX10_haresAheadOf_2 ?_
  refine z_istore_n C0 hl [(3, .int (zI 0)), (2, .int (zI 0)), (0, .ref (ad b)), (1, .int (zI x0))] (by decide) rfl dX10_haresAheadOf_3 (fun ls hl => ?_)
  have aft4 : ∀ (k4 : Nat) (hk4 : (k4 : Int) ≤ (V 1)) (v2 : Int) (hv2 : v2 = zcnt (fun q => 0 < V (72 + 4 * q + 2) - V (72 + 4 * x0 + 2) ∨ (V (72 + 4 * q + 2) - V (72 + 4 * x0 + 2) = 0 ∧ q < x0)) k4) (hw : 0 ≤ v2 ∧ v2 ≤ k4) (hx4 : (k4 : Int) = (V 1)) (H : Heap) (locs : List Loc) (ls : Array Slot) (Wd : zW g (zA (0, 398, zX) ad s.heap.size) s.heap (0, 398, zX) ad zM0 zF0 H locs) (hl : lv_has ls 5 [(0, .ref (ad b)), (1, .int (zI x0)), (2, .int (zI v2)), (3, .int (zI (k4 : Int)))]), W p l e (zrm 2 0 0) s m args below meth c H locs 0 0 (zMQ below g (0, 398, zX) ad (zPi (fun r M' F' => (zrnk V x0) = r ∧ zM0 = M' ∧ zF0 = F')) args s 0 0) (F0 m 49 ls []) := by
    intro k4 hk4 v2 hv2 hw hx4 H locs ls Wd hl
    replace hl : lv_has ls 5 [(0, .ref (ad b)), (1, .int (zI x0)), (2, .int (zI v2))] := lv_sub hl [0, 1, 2] rfl
    refine z_iload_n C0 hl 2 rfl dX10_haresAheadOf_49 ?_
    exact z_iret C0 Wd hret hlk (zR_mk (by omega) (by omega)) ⟨by rw [hv2]; unfold zrnk; rw [show (V 1).toNat = k4 by omega], rfl, rfl⟩ dX10_haresAheadOf_50
  have lp4 : ∀ (d4 k4 : Nat) (hk4 : (k4 : Int) + d4 = (V 1)) (v2 : Int) (hv2 : v2 = zcnt (fun q => 0 < V (72 + 4 * q + 2) - V (72 + 4 * x0 + 2) ∨ (V (72 + 4 * q + 2) - V (72 + 4 * x0 + 2) = 0 ∧ q < x0)) k4) (hw : 0 ≤ v2 ∧ v2 ≤ k4) (H : Heap) (locs : List Loc) (ls : Array Slot) (Wd : zW g (zA (0, 398, zX) ad s.heap.size) s.heap (0, 398, zX) ad zM0 zF0 H locs) (hl : lv_has ls 5 [(0, .ref (ad b)), (1, .int (zI x0)), (2, .int (zI v2)), (3, .int (zI (k4 : Int)))]), W p l e (zrm 2 0 0) s m args below meth c H locs 0 0 (zMQ below g (0, 398, zX) ad (zPi (fun r M' F' => (zrnk V x0) = r ∧ zM0 = M' ∧ zF0 = F')) args s 0 0) (F0 m 4 ls []) := by
    intro d4
    induction d4 with
    | zero =>
      intro k4 hk4 v2 hv2 hw H locs ls Wd hl
      have hg1 := fun a b => (hI.2.2.2.2.2.1 (k4 : Int) a b).2.2.1
      have hg2 := (hI.2.2.2.2.2.1 x0 (by omega) (by omega)).2.2.1
      refine z_iload_n C0 hl 3 rfl dX10_haresAheadOf_4 ?_
      refine z_aload_n C0 hl 0 rfl dX10_haresAheadOf_5 ?_
      refine zg_7_2 C0 Wd (znB0 hb) (zkB0 hb) zk_196 dX10_haresAheadOf_6 ?_
      obtain ⟨he2, hz1⟩ : (zM0 b 2) = (V 1) ∧ zR (V 1) := (fun q => ⟨q, q ▸ Wd.rm _ _⟩) hR.c2
      refine z_top (congrArg zI he2) ?_
      clear he2
      refine z_icmp_ge C0 (tgt := 49) (zR_mk (by omega) (by omega)) hz1 dX10_haresAheadOf_9 (by decide) (fun c3 => ?_) (fun c3 => ?_)
      · skip
        first | exact aft4 k4 (by omega) v2 hv2 hw (by first | assumption | omega) _ _ _ Wd (lv_sub hl [0, 1, 2, 3] rfl) | (exfalso; omega)
      · skip
        exfalso; omega
    | succ d4 ih4 =>
      intro k4 hk4 v2 hv2 hw H locs ls Wd hl
      have hg1 := fun a b => (hI.2.2.2.2.2.1 (k4 : Int) a b).2.2.1
      have hg2 := (hI.2.2.2.2.2.1 x0 (by omega) (by omega)).2.2.1
      refine z_iload_n C0 hl 3 rfl dX10_haresAheadOf_4 ?_
      refine z_aload_n C0 hl 0 rfl dX10_haresAheadOf_5 ?_
      refine zg_7_2 C0 Wd (znB0 hb) (zkB0 hb) zk_196 dX10_haresAheadOf_6 ?_
      obtain ⟨he5, hz4⟩ : (zM0 b 2) = (V 1) ∧ zR (V 1) := (fun q => ⟨q, q ▸ Wd.rm _ _⟩) hR.c2
      refine z_top (congrArg zI he5) ?_
      clear he5
      refine z_icmp_ge C0 (tgt := 49) (zR_mk (by omega) (by omega)) hz4 dX10_haresAheadOf_9 (by decide) (fun c6 => ?_) (fun c6 => ?_)
      · skip
        first | exact aft4 k4 (by omega) v2 hv2 hw (by first | assumption | omega) _ _ _ Wd (lv_sub hl [0, 1, 2, 3] rfl) | (exfalso; omega)
      · skip
        refine z_aload_n C0 hl 0 rfl dX10_haresAheadOf_12 ?_
        refine z_iload_n C0 hl 3 rfl dX10_haresAheadOf_13 ?_
        refine z_invVi (As := [.int (zI (k4 : Int))]) (rest := []) C0 Wd (ct_X10_receivedBy l g zX ad zM0 zF0 b hb V zt (k4 : Int) (zR_mk (by omega) (by omega)) hR hI) kv_X10_receivedBy (znB0 hb) (zE_7 (zkB0 hb)) rfl zk_917 rfl hl.1 rfl (Nat.le_of_ble_eq_true rfl) (by decide) (by decide) dX10_haresAheadOf_14 (fun r7 zMr7 zFr7 H locs hrr7 hp Wd => ?_)
        rcases hp with ⟨hr7_0_0, rfl, rfl, rfl⟩ | ⟨hr7_1_0, rfl, rfl, rfl⟩
        · skip
          refine z_aload_n C0 hl 0 rfl dX10_haresAheadOf_17 ?_
          refine z_iload_n C0 hl 1 rfl dX10_haresAheadOf_18 ?_
          refine z_invVi (As := [.int (zI x0)]) (rest := [.int (zI (V (72 + 4 * (k4 : Int) + 2)))]) C0 Wd (ct_X10_receivedBy l g zX ad zM0 zF0 b hb V zt x0 hx0 hR hI) kv_X10_receivedBy (znB0 hb) (zE_7 (zkB0 hb)) rfl zk_917 rfl hl.1 rfl (Nat.le_of_ble_eq_true rfl) (by decide) (by decide) dX10_haresAheadOf_19 (fun r9 zMr9 zFr9 H locs hrr9 hp Wd => ?_)
          rcases hp with ⟨hr9_0_0, rfl, rfl, rfl⟩ | ⟨hr9_1_0, rfl, rfl, rfl⟩
          · skip
            refine z_isub C0 dX10_haresAheadOf_22 ?_
            refine z_istore C0 hl [(4, .int (zI ((V (72 + 4 * (k4 : Int) + 2)) - (V (72 + 4 * x0 + 2))))), (0, .ref (ad b)), (1, .int (zI x0)), (2, .int (zI v2)), (3, .int (zI (k4 : Int)))] (by decide) rfl dX10_haresAheadOf_23 (fun ls hl => ?_)
            refine z_iload C0 hl 0 rfl dX10_haresAheadOf_25 ?_
            refine z_if_gt C0 (tgt := 40) (by have q0 := hrr7.1; have p0 := hrr7.2; have q1 := hrr9.1; have p1 := hrr9.2; exact zR_mk (by omega) (by omega)) dX10_haresAheadOf_27 (by decide) (fun c11 => ?_) (fun c11 => ?_)
            · skip
              refine z_iinc C0 hl 3 (t := v2) (u := (v2 + 1)) rfl (by omega) [(2, .int (zI (v2 + 1))), (4, .int (zI ((V (72 + 4 * (k4 : Int) + 2)) - (V (72 + 4 * x0 + 2))))), (0, .ref (ad b)), (1, .int (zI x0)), (3, .int (zI (k4 : Int)))] (by decide) rfl dX10_haresAheadOf_40 (fun ls hl => ?_)
              refine z_iinc C0 hl 4 (t := (k4 : Int)) (u := ((k4 : Int) + 1)) rfl (by omega) [(3, .int (zI ((k4 : Int) + 1))), (2, .int (zI (v2 + 1))), (4, .int (zI ((V (72 + 4 * (k4 : Int) + 2)) - (V (72 + 4 * x0 + 2))))), (0, .ref (ad b)), (1, .int (zI x0))] (by decide) rfl dX10_haresAheadOf_43 (fun ls hl => ?_)
              refine z_goto C0 (tgt := 4) dX10_haresAheadOf_46 (by decide) ?_
              exact ih4 (k4 + 1) (by omega) (v2 + 1) (zcnt_step hv2 (by first | exact Or.inl ⟨Or.inl (by omega), rfl⟩ | exact Or.inl ⟨Or.inr ⟨by omega, by omega⟩, rfl⟩ | exact Or.inr ⟨by omega, by omega⟩)) (by omega) _ _ _ Wd (lv_sub hl [3, 4, 1, 0] rfl)
            · skip
              refine z_iload C0 hl 0 rfl dX10_haresAheadOf_30 ?_
              refine z_if_ne C0 (tgt := 43) (by have q0 := hrr7.1; have p0 := hrr7.2; have q1 := hrr9.1; have p1 := hrr9.2; exact zR_mk (by omega) (by omega)) dX10_haresAheadOf_32 (by decide) (fun c12 => ?_) (fun c12 => ?_)
              · skip
                refine z_iinc C0 hl 4 (t := (k4 : Int)) (u := ((k4 : Int) + 1)) rfl (by omega) [(3, .int (zI ((k4 : Int) + 1))), (4, .int (zI ((V (72 + 4 * (k4 : Int) + 2)) - (V (72 + 4 * x0 + 2))))), (0, .ref (ad b)), (1, .int (zI x0)), (2, .int (zI v2))] (by decide) rfl dX10_haresAheadOf_43 (fun ls hl => ?_)
                refine z_goto C0 (tgt := 4) dX10_haresAheadOf_46 (by decide) ?_
                exact ih4 (k4 + 1) (by omega) v2 (zcnt_step hv2 (by first | exact Or.inl ⟨Or.inl (by omega), rfl⟩ | exact Or.inl ⟨Or.inr ⟨by omega, by omega⟩, rfl⟩ | exact Or.inr ⟨by omega, by omega⟩)) (by omega) _ _ _ Wd (lv_sub hl [2, 3, 4, 0] rfl)
              · skip
                refine z_iload_n C0 hl 4 rfl dX10_haresAheadOf_35 ?_
                refine z_iload_n C0 hl 2 rfl dX10_haresAheadOf_36 ?_
                refine z_icmp_ge C0 (tgt := 43) (zR_mk (by omega) (by omega)) hx0 dX10_haresAheadOf_37 (by decide) (fun c13 => ?_) (fun c13 => ?_)
                · skip
                  refine z_iinc C0 hl 4 (t := (k4 : Int)) (u := ((k4 : Int) + 1)) rfl (by omega) [(3, .int (zI ((k4 : Int) + 1))), (4, .int (zI ((V (72 + 4 * (k4 : Int) + 2)) - (V (72 + 4 * x0 + 2))))), (0, .ref (ad b)), (1, .int (zI x0)), (2, .int (zI v2))] (by decide) rfl dX10_haresAheadOf_43 (fun ls hl => ?_)
                  refine z_goto C0 (tgt := 4) dX10_haresAheadOf_46 (by decide) ?_
                  exact ih4 (k4 + 1) (by omega) v2 (zcnt_step hv2 (by first | exact Or.inl ⟨Or.inl (by omega), rfl⟩ | exact Or.inl ⟨Or.inr ⟨by omega, by omega⟩, rfl⟩ | exact Or.inr ⟨by omega, by omega⟩)) (by omega) _ _ _ Wd (lv_sub hl [2, 3, 4, 0] rfl)
                · skip
                  refine z_iinc C0 hl 3 (t := v2) (u := (v2 + 1)) rfl (by omega) [(2, .int (zI (v2 + 1))), (4, .int (zI ((V (72 + 4 * (k4 : Int) + 2)) - (V (72 + 4 * x0 + 2))))), (0, .ref (ad b)), (1, .int (zI x0)), (3, .int (zI (k4 : Int)))] (by decide) rfl dX10_haresAheadOf_40 (fun ls hl => ?_)
                  refine z_iinc C0 hl 4 (t := (k4 : Int)) (u := ((k4 : Int) + 1)) rfl (by omega) [(3, .int (zI ((k4 : Int) + 1))), (2, .int (zI (v2 + 1))), (4, .int (zI ((V (72 + 4 * (k4 : Int) + 2)) - (V (72 + 4 * x0 + 2))))), (0, .ref (ad b)), (1, .int (zI x0))] (by decide) rfl dX10_haresAheadOf_43 (fun ls hl => ?_)
                  refine z_goto C0 (tgt := 4) dX10_haresAheadOf_46 (by decide) ?_
                  exact ih4 (k4 + 1) (by omega) (v2 + 1) (zcnt_step hv2 (by first | exact Or.inl ⟨Or.inl (by omega), rfl⟩ | exact Or.inl ⟨Or.inr ⟨by omega, by omega⟩, rfl⟩ | exact Or.inr ⟨by omega, by omega⟩)) (by omega) _ _ _ Wd (lv_sub hl [3, 4, 1, 0] rfl)
          · skip
            exfalso; omega
        · skip
          exfalso; omega
  exact lp4 ((V 1)).toNat 0 (by omega) 0 rfl (by omega) _ _ _ Wd (lv_sub hl [2, 3, 1, 0] rfl)
theorem kv_X11_hareByReceived : zKV yX11_hareByReceived cX11_hareByReceived 3 (some .int) "DrumWarren" 1 := ⟨zk_912, zk_910, zk_911, zk_25, by decide, by decide, by decide +kernel⟩
set_option maxHeartbeats 4000000 in
set_option maxRecDepth 100000 in
theorem ct_X11_hareByReceived (l : Launch) (g : zG) (zX : va_W) (ad : Int → Nat) (zM0 zF0 : zMem) (V : Int → Int) (zt : Int) (x0 : Int) (hx0 : zR x0) (hR : zRS 1 V zM0 zF0) (hI : zIV zt V) : zMx l yX11_hareByReceived cX11_hareByReceived 3 (some .int) 8 1 6 g (0, 398, zX) ad [.ref (ad 0), .int (zI x0)] zM0 zF0 (zPi (fun r M' F' => (∃ q : Int, (0 ≤ q ∧ q < V 1) ∧ (zrnk V q = x0) ∧ q = r ∧ zM0 = M' ∧ zF0 = F'))) (fun E M' F' => (E = "java/util/NoSuchElementException" ∧ ∀ q, 0 ≤ q → q < V 1 → zrnk V q ≠ x0) ∧ zM0 = M' ∧ zF0 = F') := by
  refine zMx.of "DrumWarren" rfl (by decide +kernel) (Nat.le_of_ble_eq_true rfl) (fun {p e s m args below meth c ls} C0 Wd hl hret hlk hin hst hno => ?_)
  have hl : lv_has ls 3 [(0, .ref (ad 0)), (1, .int (zI x0))] := hl
  have h0b := hI.1
  have h1b := hI.2.1
  have h2b := hI.2.2.1
  refine z_iconst C0 dX11_hareByReceived_0 ?_
  refine z_istore_n C0 hl [(2, .int (zI 0)), (0, .ref (ad 0)), (1, .int (zI x0))] (by decide) rfl dX11_hareByReceived_1 (fun ls hl => ?_)
  have aft2 : ∀ (k2 : Nat) (hk2 : (k2 : Int) ≤ (V 1)) (hn : ∀ q, 0 ≤ q → q < (k2 : Int) → zrnk V q ≠ x0) (hx2 : (k2 : Int) = (V 1)) (H : Heap) (locs : List Loc) (ls : Array Slot) (Wd : zW g (zA (0, 398, zX) ad s.heap.size) s.heap (0, 398, zX) ad zM0 zF0 H locs) (hl : lv_has ls 3 [(0, .ref (ad 0)), (1, .int (zI x0)), (2, .int (zI (k2 : Int)))]), W p l e (zrm 8 1 6) s m args below meth c H locs 0 0 (zXQ below g (0, 398, zX) ad (zPi (fun r M' F' => (∃ q : Int, (0 ≤ q ∧ q < V 1) ∧ (zrnk V q = x0) ∧ q = r ∧ zM0 = M' ∧ zF0 = F'))) (fun E M' F' => (E = "java/util/NoSuchElementException" ∧ ∀ q, 0 ≤ q → q < V 1 → zrnk V q ≠ x0) ∧ zM0 = M' ∧ zF0 = F') args s 1 6) (F0 m 33 ls []) := by
    intro k2 hk2 hn hx2 H locs ls Wd hl
    replace hl : lv_has ls 3 [(0, .ref (ad 0)), (1, .int (zI x0))] := lv_sub hl [0, 1] rfl
    exact z_throwE (k := 2) C0 Wd hst hl.1 zTh_N (zc_r C0 (q := ("DrumWarren", 156, "no such rank", 202)) (List.mem_of_getElem? (i := 14) rfl)) hno hlk dX11_hareByReceived_33 dX11_hareByReceived_36 (Or.inl ⟨rfl, dX11_hareByReceived_37⟩) dX11_hareByReceived_39 dX11_hareByReceived_42 (by decide) (by decide) (by decide) (by decide) ⟨⟨rfl, fun q h0 h1 => hn q h0 (by omega)⟩, rfl, rfl⟩
  have lp2 : ∀ (d2 k2 : Nat) (hk2 : (k2 : Int) + d2 = (V 1)) (hn : ∀ q, 0 ≤ q → q < (k2 : Int) → zrnk V q ≠ x0) (H : Heap) (locs : List Loc) (ls : Array Slot) (Wd : zW g (zA (0, 398, zX) ad s.heap.size) s.heap (0, 398, zX) ad zM0 zF0 H locs) (hl : lv_has ls 3 [(0, .ref (ad 0)), (1, .int (zI x0)), (2, .int (zI (k2 : Int)))]), W p l e (zrm 8 1 6) s m args below meth c H locs 0 0 (zXQ below g (0, 398, zX) ad (zPi (fun r M' F' => (∃ q : Int, (0 ≤ q ∧ q < V 1) ∧ (zrnk V q = x0) ∧ q = r ∧ zM0 = M' ∧ zF0 = F'))) (fun E M' F' => (E = "java/util/NoSuchElementException" ∧ ∀ q, 0 ≤ q → q < V 1 → zrnk V q ≠ x0) ∧ zM0 = M' ∧ zF0 = F') args s 1 6) (F0 m 2 ls []) := by
    intro d2
    induction d2 with
    | zero =>
      intro k2 hk2 hn H locs ls Wd hl
      refine z_iload_n C0 hl 2 rfl dX11_hareByReceived_2 ?_
      refine z_aload_n C0 hl 0 rfl dX11_hareByReceived_3 ?_
      refine zg_8_0 C0 Wd zN0 zK0 zk_343 dX11_hareByReceived_4 ?_
      refine zg_7_2 C0 Wd zN1 zK1 zk_197 dX11_hareByReceived_7 ?_
      obtain ⟨he2, hz1⟩ : (zM0 1 2) = (V 1) ∧ zR (V 1) := (fun q => ⟨q, q ▸ Wd.rm _ _⟩) hR.c2
      refine z_top (congrArg zI he2) ?_
      clear he2
      refine z_icmp_ge C0 (tgt := 33) (zR_mk (by omega) (by omega)) hz1 dX11_hareByReceived_10 (by decide) (fun c3 => ?_) (fun c3 => ?_)
      · skip
        first | exact aft2 k2 (by omega) hn (by first | assumption | omega) _ _ _ Wd (lv_sub hl [0, 1, 2] rfl) | (exfalso; omega)
      · skip
        exfalso; omega
    | succ d2 ih2 =>
      intro k2 hk2 hn H locs ls Wd hl
      refine z_iload_n C0 hl 2 rfl dX11_hareByReceived_2 ?_
      refine z_aload_n C0 hl 0 rfl dX11_hareByReceived_3 ?_
      refine zg_8_0 C0 Wd zN0 zK0 zk_343 dX11_hareByReceived_4 ?_
      refine zg_7_2 C0 Wd zN1 zK1 zk_197 dX11_hareByReceived_7 ?_
      obtain ⟨he5, hz4⟩ : (zM0 1 2) = (V 1) ∧ zR (V 1) := (fun q => ⟨q, q ▸ Wd.rm _ _⟩) hR.c2
      refine z_top (congrArg zI he5) ?_
      clear he5
      refine z_icmp_ge C0 (tgt := 33) (zR_mk (by omega) (by omega)) hz4 dX11_hareByReceived_10 (by decide) (fun c6 => ?_) (fun c6 => ?_)
      · skip
        first | exact aft2 k2 (by omega) hn (by first | assumption | omega) _ _ _ Wd (lv_sub hl [0, 1, 2] rfl) | (exfalso; omega)
      · skip
        refine z_aload_n C0 hl 0 rfl dX11_hareByReceived_13 ?_
        refine zg_8_0 C0 Wd zN0 zK0 zk_343 dX11_hareByReceived_14 ?_
        refine z_iload_n C0 hl 2 rfl dX11_hareByReceived_17 ?_
        refine z_invVi (As := [.int (zI (k2 : Int))]) (rest := []) C0 Wd (ct_X10_haresAheadOf l g zX ad zM0 zF0 1 zB_1 V zt (k2 : Int) (zR_mk (by omega) (by omega)) hR hI (by omega)) kv_X10_haresAheadOf zN1 (zE_7 zK1) rfl zk_913 rfl hl.1 rfl (Nat.le_of_ble_eq_true rfl) (by decide) (by decide) dX11_hareByReceived_18 (fun r7 zMr7 zFr7 H locs hrr7 hp Wd => ?_)
        obtain ⟨rfl, rfl, rfl⟩ := hp
        refine z_iload_n C0 hl 1 rfl dX11_hareByReceived_21 ?_
        refine z_icmp_ne C0 (tgt := 27) hrr7 hx0 dX11_hareByReceived_22 (by decide) (fun c9 => ?_) (fun c9 => ?_)
        · skip
          refine z_iinc C0 hl 2 (t := (k2 : Int)) (u := ((k2 : Int) + 1)) rfl (by omega) [(2, .int (zI ((k2 : Int) + 1))), (0, .ref (ad 0)), (1, .int (zI x0))] (by decide) rfl dX11_hareByReceived_27 (fun ls hl => ?_)
          refine z_goto C0 (tgt := 2) dX11_hareByReceived_30 (by decide) ?_
          exact ih2 (k2 + 1) (by omega) (fun q h0 h1 => by by_cases hq : q = (k2 : Int) <;> first | (rw [hq]; omega) | exact hn q h0 (by omega)) _ _ _ Wd (lv_sub hl [1, 2, 0] rfl)
        · skip
          refine z_iload_n C0 hl 2 rfl dX11_hareByReceived_25 ?_
          exact z_xret (z_iret C0 Wd hret hlk (zR_mk (by omega) (by omega)) ⟨(k2 : Int), ⟨by omega, by omega⟩, by omega, rfl, rfl, rfl⟩ dX11_hareByReceived_26) (by decide) (by decide)
  exact lp2 ((V 1)).toNat 0 (by omega) (fun q h0 h1 => by omega) _ _ _ Wd (lv_sub hl [1, 2, 0] rfl)
theorem kv_X11_isConsistent : zKV yX11_isConsistent cX11_isConsistent 1 (some .boolean) "DrumWarren" 0 := ⟨zk_1414, zk_1412, zk_1413, zk_25, by decide, by decide, by decide +kernel⟩
set_option maxHeartbeats 4000000 in
set_option maxRecDepth 100000 in
theorem ct_X11_isConsistent (l : Launch) (g : zG) (zX : va_W) (ad : Int → Nat) (zM0 zF0 : zMem) (V : Int → Int) (zt : Int) (hR : zRS 1 V zM0 zF0) (hI : zIV zt V) (hO : zOne V) (hN : zTn V) : zMt l yX11_isConsistent cX11_isConsistent 1 (some .boolean) 5 0 0 g (0, 398, zX) ad [.ref (ad 0)] zM0 zF0 (zPi (fun r M' F' => (∃ w : Int → Int, 1 = r ∧ (zrow zM0 (1 + 4) w) = M' ∧ zF0 = F'))) := by
  refine zMt.of "DrumWarren" rfl (by decide +kernel) (Nat.le_of_ble_eq_true rfl) (fun {p e s m args below meth c ls} C0 Wd hl hret hlk hin => ?_)
  have hl : lv_has ls 1 [(0, .ref (ad 0))] := hl
  have h0b := hI.1
  have h1b := hI.2.1
  have h2b := hI.2.2.1
  refine z_aload_n C0 hl 0 rfl dX11_isConsistent_0 ?_
  refine zg_8_0 C0 Wd zN0 zK0 zk_343 dX11_isConsistent_1 ?_
  refine zg_7_0 C0 Wd zN1 zK1 zk_194 dX11_isConsistent_4 ?_
  refine z_rf (show (1 + 1) = 2 by decide) ?_
  refine z_invVi (As := []) (rest := []) C0 Wd (ct_X2_waysAgree l g zX ad zM0 zF0 1 zB_1 V hR.B h0b.1 h0b.2 hI.2.2.2.2.1 hN) kv_X2_waysAgree zN2 (zE_1 zK2) rfl zk_1415 rfl hl.1 rfl (Nat.le_of_ble_eq_true rfl) (by decide) (by decide) dX11_isConsistent_7 (fun r1 zMr1 zFr1 H locs hrr1 hp Wd => ?_)
  rcases hp with ⟨w_r1, rfl, rfl, rfl⟩
  · skip
    have hRr := zRS_5 (w := w_r1) hR h1b.2 h2b.2
    refine z_if_eq C0 (tgt := 33) (zR_mk (by decide) (by decide)) dX11_isConsistent_10 (by decide) (fun h => absurd h (by decide)) (fun _ => ?_)
    refine z_invSi (As := []) (rest := []) C0 Wd (ct_X11_codesDecode l g zX ad (zrow zM0 (1 + 4) w_r1) zF0) kv_X11_codesDecode zk_1421 rfl hl.1 rfl (Nat.le_of_ble_eq_true rfl) (by decide) (by decide) dX11_isConsistent_13 (fun r4 zMr4 zFr4 H locs hrr4 hp Wd => ?_)
    obtain ⟨rfl, rfl, rfl⟩ := hp
    refine z_if_eq C0 (tgt := 33) (zR_mk (by decide) (by decide)) dX11_isConsistent_16 (by decide) (fun h => absurd h (by decide)) (fun _ => ?_)
    refine z_aload_n C0 hl 0 rfl dX11_isConsistent_19 ?_
    refine zg_8_0 C0 Wd zN0 zK0 zk_343 dX11_isConsistent_20 ?_
    refine z_invVi (As := []) (rest := []) C0 Wd (ct_X10_isDrummedByOneEach l g zX ad (zrow zM0 (1 + 4) w_r1) zF0 1 zB_1 V zt hRr hI (by omega)) kv_X10_isDrummedByOneEach zN1 (zE_7 zK1) rfl zk_1428 rfl hl.1 rfl (Nat.le_of_ble_eq_true rfl) (by decide) (by decide) dX11_isConsistent_23 (fun r7 zMr7 zFr7 H locs hrr7 hp Wd => ?_)
    obtain ⟨rfl, rfl, rfl⟩ := hp
    refine z_if_eq C0 (tgt := 33) (zR_mk (by decide) (by decide)) dX11_isConsistent_26 (by decide) (fun h => absurd h (by decide)) (fun _ => ?_)
    refine z_iconst C0 dX11_isConsistent_29 ?_
    refine z_goto C0 (tgt := 34) dX11_isConsistent_30 (by decide) ?_
    exact z_zret C0 Wd hret hlk (by decide) ⟨_, rfl, rfl, rfl⟩ dX11_isConsistent_34
theorem kv_X11_shortestDelayBySearch : zKV yX11_shortestDelayBySearch cX11_shortestDelayBySearch 3 (some .int) "DrumWarren" 2 := ⟨zk_822, zk_820, zk_821, zk_25, by decide, by decide, by decide +kernel⟩
set_option maxHeartbeats 4000000 in
set_option maxRecDepth 100000 in
theorem ct_X11_shortestDelayBySearch (l : Launch) (g : zG) (zX : va_W) (ad : Int → Nat) (zM0 zF0 : zMem) (V : Int → Int) (zt : Int) (x0 : Int) (hx0 : zR x0) (x1 : Int) (hx1 : zR x1) (hR : zRS 1 V zM0 zF0) (hI : zIV zt V) (hN : zTn V) : zMx l yX11_shortestDelayBySearch cX11_shortestDelayBySearch 3 (some .int) 8 3 18 g (0, 398, zX) ad [.ref (ad 0), .int (zI x0), .int (zI x1)] zM0 zF0 (zPi (fun r M' F' => (∃ w : Int → Int, ((zisC V x0 ∧ zisC V x1) ∧ zBF V x0 x1 ≠ 1000) ∧ (zBF V x0 x1) = r ∧ (zrow zM0 (1 + 4) w) = M' ∧ zF0 = F'))) (fun E M' F' => (E = "java/lang/IndexOutOfBoundsException" ∧ ¬ (zisC V x0 ∧ zisC V x1) ∧ zM0 = M' ∧ zF0 = F') ∨ ∃ w, E = "java/util/NoSuchElementException" ∧ (zisC V x0 ∧ zisC V x1) ∧ zBF V x0 x1 = 1000 ∧ zrow zM0 (1 + 4) w = M' ∧ zF0 = F') := by
  refine zMx.of "DrumWarren" rfl (by decide +kernel) (Nat.le_of_ble_eq_true rfl) (fun {p e s m args below meth c ls} C0 Wd hl hret hlk hin hst hno => ?_)
  have hl : lv_has ls 3 [(0, .ref (ad 0)), (1, .int (zI x0)), (2, .int (zI x1))] := hl
  have h0b := hI.1
  have h1b := hI.2.1
  have h2b := hI.2.2.1
  refine z_aload_n C0 hl 0 rfl dX11_shortestDelayBySearch_0 ?_
  refine z_iload_n C0 hl 1 rfl dX11_shortestDelayBySearch_1 ?_
  refine z_invVX (As := [.int (zI x0)]) (rest := []) C0 Wd hst hno hlk (ct_X11_checkChamber l g zX ad zM0 zF0 V zt x0 hx0 hR hI) kv_X11_checkChamber (zrecvW C0 Wd zN0 (zE_8 zK0) rfl) zk_785 rfl hl.1 rfl (Nat.le_of_ble_eq_true rfl) (by decide) (by decide) (by decide) (by decide) (fun E M9 F9 h9 => by obtain ⟨q1, q2, rfl, rfl⟩ := h9; exact Or.inl ⟨q1, by omega, rfl, rfl⟩) dX11_shortestDelayBySearch_2 (z_kkv (fun zMr1 zFr1 H locs hp Wd => ?_))
  rcases hp with ⟨hr1_0_0, rfl, rfl⟩
  · skip
    refine z_aload_n C0 hl 0 rfl dX11_shortestDelayBySearch_5 ?_
    refine z_iload_n C0 hl 2 rfl dX11_shortestDelayBySearch_6 ?_
    refine z_invVX (As := [.int (zI x1)]) (rest := []) C0 Wd hst hno hlk (ct_X11_checkChamber l g zX ad zM0 zF0 V zt x1 hx1 hR hI) kv_X11_checkChamber (zrecvW C0 Wd zN0 (zE_8 zK0) rfl) zk_785 rfl hl.1 rfl (Nat.le_of_ble_eq_true rfl) (by decide) (by decide) (by decide) (by decide) (fun E M9 F9 h9 => by obtain ⟨q1, q2, rfl, rfl⟩ := h9; exact Or.inl ⟨q1, by omega, rfl, rfl⟩) dX11_shortestDelayBySearch_7 (z_kkv (fun zMr3 zFr3 H locs hp Wd => ?_))
    rcases hp with ⟨hr3_0_0, rfl, rfl⟩
    · skip
      refine z_aload_n C0 hl 0 rfl dX11_shortestDelayBySearch_10 ?_
      refine zg_8_0 C0 Wd zN0 zK0 zk_343 dX11_shortestDelayBySearch_11 ?_
      refine zg_7_0 C0 Wd zN1 zK1 zk_194 dX11_shortestDelayBySearch_14 ?_
      refine z_rf (show (1 + 1) = 2 by decide) ?_
      refine z_iload_n C0 hl 1 rfl dX11_shortestDelayBySearch_17 ?_
      refine z_iload_n C0 hl 2 rfl dX11_shortestDelayBySearch_18 ?_
      refine z_invVi (As := [.int (zI x0), .int (zI x1)]) (rest := []) C0 Wd (ct_X2_searchWay l g zX ad zM0 zF0 1 zB_1 V x0 hx0 x1 hx1 hR.B h0b.2 hI.2.2.2.2.1 hN) kv_X2_searchWay zN2 (zE_1 zK2) rfl zk_823 rfl hl.1 rfl (Nat.le_of_ble_eq_true rfl) (by decide) (by decide) dX11_shortestDelayBySearch_19 (fun r5 zMr5 zFr5 H locs hrr5 hp Wd => ?_)
      rcases hp with ⟨w_r5, hr5_0_0, rfl, rfl, rfl⟩ | ⟨hr5_1_0, rfl, rfl, rfl⟩
      · skip
        refine z_invSX (As := [.int (zI (zBF V x0 x1))]) (rest := []) C0 Wd hst hno hlk (ct_X11_checkedWay l g zX ad (zrow zM0 (1 + 4) w_r5) zF0 (zBF V x0 x1) hrr5) kv_X11_checkedWay zk_801 rfl hl.1 rfl (Nat.le_of_ble_eq_true rfl) (by decide) (by decide) (by decide) (by decide) (fun E M9 F9 h9 => by obtain ⟨q1, q2, rfl, rfl⟩ := h9; exact Or.inr ⟨_, q1, by omega, by omega, rfl, rfl⟩) dX11_shortestDelayBySearch_22 (z_kki (fun r7 zMr7 zFr7 H locs hrr7 hp Wd => ?_))
        rcases hp with ⟨hr7_0_0, rfl, rfl, rfl⟩
        · skip
          exact z_xret (z_iret C0 Wd hret hlk hrr7 ⟨_, ⟨by omega, by omega⟩, rfl, rfl, rfl⟩ dX11_shortestDelayBySearch_25) (by decide) (by decide)
      · skip
        exfalso; omega
theorem kv_X11_undo : zKV yX11_undo cX11_undo 1 (some .int) "DrumWarren" 0 := ⟨zk_1616, zk_1614, zk_1615, zk_25, by decide, by decide, by decide +kernel⟩
set_option maxHeartbeats 4000000 in
set_option maxRecDepth 100000 in
theorem ct_X11_undo (l : Launch) (g : zG) (zX : va_W) (ad : Int → Nat) (zM0 zF0 : zMem) (V : Int → Int) (zt : Int) (zw : Int) (many : Int) (U : Int → Int → Int) (hR : zRS 1 V zM0 zF0) (hG : zGd zt V) (hH : zHi zt many U zM0 zF0) : zMx l yX11_undo cX11_undo 1 (some .int) 8 1 6 g (0, 398, zX) ad [.ref (ad 0)] zM0 zF0 (zPi (fun r M' F' => 0 < many ∧ many - 1 = r ∧ zRS 1 (U 0) M' F' ∧ zHi zt (many - 1) (fun k => U (k + 1)) M' F' ∧ zFr zM0 zF0 M' F')) (fun E M' F' => E = "java/lang/IllegalStateException" ∧ many = 0 ∧ zM0 = M' ∧ zF0 = F') := by
  refine zMx.of "DrumWarren" rfl (by decide +kernel) (Nat.le_of_ble_eq_true rfl) (fun {p e s m args below meth c ls} C0 Wd hl hret hlk hin hst hno => ?_)
  have hl : lv_has ls 1 [(0, .ref (ad 0))] := hl
  have hI := hG.1
  have h0b := hI.1
  have h1b := hI.2.1
  have h2b := hI.2.2.1
  have hn9 := hH.2.1
  have hm9 := hH.2.2.1
  have hm8 := hH.1
  refine z_aload_n C0 hl 0 rfl dX11_undo_0 ?_
  refine zg_8_3 C0 Wd zN0 zK0 zk_346 dX11_undo_1 ?_
  refine z_aload_n C0 hl 0 rfl dX11_undo_4 ?_
  refine zg_8_0 C0 Wd zN0 zK0 zk_343 dX11_undo_5 ?_
  refine z_invVi (As := [.ref (ad 1)]) (rest := []) C0 Wd (ct_X8_takeBack l g zX ad zM0 zF0 1 zB_1 (U 0) zt (fun z => by rw [hH.1]; exact (zHi_back hH (by rw [← hH.1]; exact z)).2) (fun z => (hH.2.2.2.1 0 (by omega) (by rw [← hH.1]; exact z)).2.1) hH.2.1 (by rw [hH.1]; exact hH.2.2.1) hR.2.2.2.2.1 (by omega)) kv_X8_takeBack zN94 (zE_5 zK94) rfl zk_1617 rfl hl.1 rfl (Nat.le_of_ble_eq_true rfl) (by decide) (by decide) dX11_undo_8 (fun r1 zMr1 zFr1 H locs hrr1 hp Wd => ?_)
  rcases hp with ⟨hr1_0_0, rfl, rfl, rfl⟩ | ⟨M1_r1, hr1_1_0, hr1_1_1, hr1_1_2, rfl, rfl, rfl⟩
  · skip
    refine z_if_ne C0 (tgt := 25) (zR_mk (by decide) (by decide)) dX11_undo_11 (by decide) (fun h => absurd h (by decide)) (fun _ => ?_)
    exact z_throwE (k := 3) C0 Wd hst hl.1 zTh_S (zc_r C0 (q := ("DrumWarren", 358, "no change can be undone", 217)) (List.mem_of_getElem? (i := 27) rfl)) hno hlk dX11_undo_14 dX11_undo_17 (Or.inr ⟨rfl, dX11_undo_18⟩) dX11_undo_21 dX11_undo_24 (by decide) (by decide) (by decide) (by decide) ⟨rfl, by rw [← hH.1]; assumption, rfl, rfl⟩
  · skip
    refine z_if_ne C0 (tgt := 25) (zR_mk (by decide) (by decide)) dX11_undo_11 (by decide) (fun _ => ?_) (fun h => absurd h (by decide))
    refine z_aload_n C0 hl 0 rfl dX11_undo_25 ?_
    refine zg_8_3 C0 Wd zN0 zK0 zk_346 dX11_undo_26 ?_
    refine zg_5_2 C0 Wd zN94 zK94 zk_249 dX11_undo_29 ?_
    obtain ⟨he6, hz5⟩ : (M1_r1 94 2) = (many - 1) ∧ zR (many - 1) := (fun q => ⟨q, q ▸ Wd.rm _ _⟩) ((congrFun (hr1_1_2 94 (by omega)).1 2).trans ((zu_ne (by omega)).trans ((zu_same _ _ _ _).trans (by rw [hH.1]))))
    refine z_top (congrArg zI he6) ?_
    clear he6
    exact z_xret (z_iret C0 Wd hret hlk hz5 (by obtain ⟨hB1, hB2⟩ := zHi_back hH (by omega); rw [hH.1] at hr1_1_2; exact ⟨by omega, rfl, hr1_1_1, zHi_in hB1 (fun i h0 h1 => hr1_1_2 i (by omega)), fun i h0 h1 => ⟨(hr1_1_2 i (by omega)).1.trans ((zu_row (by omega)).trans (zu_row (by omega))), (hr1_1_2 i (by omega)).2⟩⟩) dX11_undo_32) (by decide) (by decide)
