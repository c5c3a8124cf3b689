/-! the class: searching ways -/
theorem kv_X2_nearestBut : zKV yX2_nearestBut cX2_nearestBut 5 (some .int) "DrumWarren$Burrow" 1 := ⟨zk_830, zk_829, zk_12, zk_27, by decide, by decide, by decide +kernel⟩
set_option maxHeartbeats 4000000 in
set_option maxRecDepth 100000 in
theorem ct_X2_nearestBut (l : Launch) (g : zG) (zX : va_W) (ad : Int → Nat) (zM0 zF0 : zMem) (b : Int) (hb : zB b) (zwr : Int → Int) (x0 : Int) (hx0 : zR x0) (hW : zM0 (b + 4) = zwr) (hf : 0 ≤ x0 ∧ x0 < 256) (hB : ∀ v, zc8 v → 0 ≤ zwr v ∧ zwr v ≤ 1000) : zMt l yX2_nearestBut cX2_nearestBut 5 (some .int) 0 0 0 g (0, 398, zX) ad [.ref (ad (b + 1)), .int (zI x0)] zM0 zF0 (zPi (fun r M' F' => (∃ r1 : Int, (r1 = (zNe zwr x0 8).1) ∧ r1 = r ∧ zM0 = M' ∧ zF0 = F'))) := by
  refine zMt.of "DrumWarren$Burrow" rfl (by decide +kernel) (Nat.le_of_ble_eq_true rfl) (fun {p e s m args below meth c ls} C0 Wd hl hret hlk hin => ?_)
  have hl : lv_has ls 5 [(0, .ref (ad (b + 1))), (1, .int (zI x0))] := hl
  refine z_iconst C0 dX2_nearestBut_0 ?_
  refine z_istore_n C0 hl [(2, .int (zI (-1))), (0, .ref (ad (b + 1))), (1, .int (zI x0))] (by decide) rfl dX2_nearestBut_1 (fun ls hl => ?_)
  refine z_sipush C0 dX2_nearestBut_2 (by decide) ?_
  refine z_istore_n C0 hl [(3, .int (zI 1000)), (2, .int (zI (-1))), (0, .ref (ad (b + 1))), (1, .int (zI x0))] (by decide) rfl dX2_nearestBut_5 (fun ls hl => ?_)
  refine z_iconst C0 dX2_nearestBut_6 ?_
  refine z_istore C0 hl [(4, .int (zI 0)), (3, .int (zI 1000)), (2, .int (zI (-1))), (0, .ref (ad (b + 1))), (1, .int (zI x0))] (by decide) rfl dX2_nearestBut_7 (fun ls hl => ?_)
  have aft9 : ∀ (k9 : Nat) (hk9 : (k9 : Int) ≤ 8) (u2 : Int) (u3 : Int) (hn : zNe zwr x0 k9 = (u2, u3)) (hu2 : -1 ≤ u2 ∧ u2 < 8) (hu3 : 0 ≤ u3 ∧ u3 ≤ 1000) (hx9 : (k9 : Int) = 8) (H : Heap) (locs : List Loc) (ls : Array Slot) (Wd : zW g (zA (0, 398, zX) ad s.heap.size) s.heap (0, 398, zX) ad zM0 zF0 H locs) (hl : lv_has ls 5 [(0, .ref (ad (b + 1))), (1, .int (zI x0)), (2, .int (zI u2)), (3, .int (zI u3)), (4, .int (zI (k9 : Int)))]), W p l e (zrm 0 0 0) s m args below meth c H locs 0 0 (zMQ below g (0, 398, zX) ad (zPi (fun r M' F' => (∃ r1 : Int, (r1 = (zNe zwr x0 8).1) ∧ r1 = r ∧ zM0 = M' ∧ zF0 = F'))) args s 0 0) (F0 m 53 ls []) := by
    intro k9 hk9 u2 u3 hn hu2 hu3 hx9 H locs ls Wd hl
    replace hl : lv_has ls 5 [(0, .ref (ad (b + 1))), (1, .int (zI x0)), (2, .int (zI u2)), (3, .int (zI u3))] := lv_sub hl [0, 1, 2, 3] rfl
    obtain rfl : k9 = 8 := by omega
    refine z_iload_n C0 hl 2 rfl dX2_nearestBut_53 ?_
    exact z_iret C0 Wd hret hlk (zR_mk (by omega) (by omega)) ⟨_, by rw [hn], rfl, rfl, rfl⟩ dX2_nearestBut_54
  have lp9 : ∀ (d9 k9 : Nat) (hk9 : (k9 : Int) + d9 = 8) (u2 : Int) (u3 : Int) (hn : zNe zwr x0 k9 = (u2, u3)) (hu2 : -1 ≤ u2 ∧ u2 < 8) (hu3 : 0 ≤ u3 ∧ u3 ≤ 1000) (H : Heap) (locs : List Loc) (ls : Array Slot) (Wd : zW g (zA (0, 398, zX) ad s.heap.size) s.heap (0, 398, zX) ad zM0 zF0 H locs) (hl : lv_has ls 5 [(0, .ref (ad (b + 1))), (1, .int (zI x0)), (2, .int (zI u2)), (3, .int (zI u3)), (4, .int (zI (k9 : Int)))]), W p l e (zrm 0 0 0) s m args below meth c H locs 0 0 (zMQ below g (0, 398, zX) ad (zPi (fun r M' F' => (∃ r1 : Int, (r1 = (zNe zwr x0 8).1) ∧ r1 = r ∧ zM0 = M' ∧ zF0 = F'))) args s 0 0) (F0 m 9 ls []) := by
    intro d9
    induction d9 with
    | zero =>
      intro k9 hk9 u2 u3 hn hu2 hu3 H locs ls Wd hl
      refine z_iload C0 hl 4 rfl dX2_nearestBut_9 ?_
      refine z_bipush C0 dX2_nearestBut_11 (by decide) ?_
      refine z_icmp_ge C0 (tgt := 53) (zR_mk (by omega) (by omega)) (zR_mk (by decide) (by decide)) dX2_nearestBut_13 (by decide) (fun c1 => ?_) (fun c1 => ?_)
      · skip
        first | exact aft9 k9 (by omega) u2 u3 hn hu2 hu3 (by first | assumption | omega) _ _ _ Wd (lv_sub hl [0, 1, 2, 3, 4] rfl) | (exfalso; omega)
      · skip
        exfalso; omega
    | succ d9 ih9 =>
      intro k9 hk9 u2 u3 hn hu2 hu3 H locs ls Wd hl
      refine z_iload C0 hl 4 rfl dX2_nearestBut_9 ?_
      refine z_bipush C0 dX2_nearestBut_11 (by decide) ?_
      refine z_icmp_ge C0 (tgt := 53) (zR_mk (by omega) (by omega)) (zR_mk (by decide) (by decide)) dX2_nearestBut_13 (by decide) (fun c2 => ?_) (fun c2 => ?_)
      · skip
        first | exact aft9 k9 (by omega) u2 u3 hn hu2 hu3 (by first | assumption | omega) _ _ _ Wd (lv_sub hl [0, 1, 2, 3, 4] rfl) | (exfalso; omega)
      · skip
        refine z_iload_n C0 hl 1 rfl dX2_nearestBut_16 ?_
        refine z_iconst C0 dX2_nearestBut_17 ?_
        refine z_iload C0 hl 4 rfl dX2_nearestBut_18 ?_
        refine z_ishl C0 (v := (2 ^ (k9 : Int).toNat)) (zI_shl1 ⟨by omega, by omega⟩) dX2_nearestBut_20 ?_
        refine z_iand C0 (v := (zbi x0 (k9 : Int) * 2 ^ (k9 : Int).toNat)) (zbit_and hf ⟨by omega, by omega⟩).1 dX2_nearestBut_21 ?_
        have hz9 := zbit_and hf (k := (k9 : Int)) ⟨by omega, by omega⟩
        have hq9 := hB (k9 : Int) ⟨by omega, by omega⟩
        refine z_if_ne C0 (tgt := 47) (by have q0 := hx0.1; have p0 := hx0.2; exact zR_mk (by omega) (by omega)) dX2_nearestBut_22 (by decide) (fun c3 => ?_) (fun c3 => ?_)
        · skip
          refine z_iinc C0 hl 4 (t := (k9 : Int)) (u := ((k9 : Int) + 1)) rfl (by omega) [(4, .int (zI ((k9 : Int) + 1))), (0, .ref (ad (b + 1))), (1, .int (zI x0)), (2, .int (zI u2)), (3, .int (zI u3))] (by decide) rfl dX2_nearestBut_47 (fun ls hl => ?_)
          refine z_goto C0 (tgt := 9) dX2_nearestBut_50 (by decide) ?_
          exact ih9 (k9 + 1) (by omega) u2 u3 (zNe_step hn (by first | exact Or.inl ⟨by omega, by assumption, rfl, rfl⟩ | exact Or.inr ⟨by omega, rfl, rfl⟩)) (by omega) (by omega) _ _ _ Wd (lv_sub hl [1, 2, 3, 4, 0] rfl)
        · skip
          refine z_aload_n C0 hl 0 rfl dX2_nearestBut_25 ?_
          refine zg_1_4 C0 Wd (znB1 hb) (zkB1 hb) zk_100 dX2_nearestBut_26 ?_
          refine z_rf (show ((b + 1) + 3) = (b + 4) by omega) ?_
          refine z_iload C0 hl 4 rfl dX2_nearestBut_29 ?_
          refine z_iald C0 Wd (znB4 hb) (zkB4 hb) (zlB4 hb) (by omega) (by omega) (by decide) dX2_nearestBut_31 ?_
          obtain ⟨he5, hz4⟩ : (zM0 (b + 4) (k9 : Int)) = (zwr (k9 : Int)) ∧ zR (zwr (k9 : Int)) := (fun q => ⟨q, q ▸ Wd.rm _ _⟩) (congrFun hW _)
          refine z_top (congrArg zI he5) ?_
          clear he5
          refine z_iload_n C0 hl 3 rfl dX2_nearestBut_32 ?_
          refine z_icmp_ge C0 (tgt := 47) hz4 (zR_mk (by omega) (by omega)) dX2_nearestBut_33 (by decide) (fun c6 => ?_) (fun c6 => ?_)
          · skip
            refine z_iinc C0 hl 4 (t := (k9 : Int)) (u := ((k9 : Int) + 1)) rfl (by omega) [(4, .int (zI ((k9 : Int) + 1))), (0, .ref (ad (b + 1))), (1, .int (zI x0)), (2, .int (zI u2)), (3, .int (zI u3))] (by decide) rfl dX2_nearestBut_47 (fun ls hl => ?_)
            refine z_goto C0 (tgt := 9) dX2_nearestBut_50 (by decide) ?_
            exact ih9 (k9 + 1) (by omega) u2 u3 (zNe_step hn (by first | exact Or.inl ⟨by omega, by assumption, rfl, rfl⟩ | exact Or.inr ⟨by omega, rfl, rfl⟩)) (by omega) (by omega) _ _ _ Wd (lv_sub hl [1, 2, 3, 4, 0] rfl)
          · skip
            refine z_iload C0 hl 4 rfl dX2_nearestBut_36 ?_
            refine z_istore_n C0 hl [(2, .int (zI (k9 : Int))), (0, .ref (ad (b + 1))), (1, .int (zI x0)), (3, .int (zI u3)), (4, .int (zI (k9 : Int)))] (by decide) rfl dX2_nearestBut_38 (fun ls hl => ?_)
            refine z_aload_n C0 hl 1 rfl dX2_nearestBut_39 ?_
            refine zg_1_4 C0 Wd (znB1 hb) (zkB1 hb) zk_100 dX2_nearestBut_40 ?_
            refine z_rf (show ((b + 1) + 3) = (b + 4) by omega) ?_
            refine z_iload C0 hl 4 rfl dX2_nearestBut_43 ?_
            refine z_iald C0 Wd (znB4 hb) (zkB4 hb) (zlB4 hb) (by omega) (by omega) (by decide) dX2_nearestBut_45 ?_
            obtain ⟨he8, hz7⟩ : (zM0 (b + 4) (k9 : Int)) = (zwr (k9 : Int)) ∧ zR (zwr (k9 : Int)) := (fun q => ⟨q, q ▸ Wd.rm _ _⟩) (congrFun hW _)
            refine z_top (congrArg zI he8) ?_
            clear he8
            refine z_istore_n C0 hl [(3, .int (zI (zwr (k9 : Int)))), (2, .int (zI (k9 : Int))), (0, .ref (ad (b + 1))), (1, .int (zI x0)), (4, .int (zI (k9 : Int)))] (by decide) rfl dX2_nearestBut_46 (fun ls hl => ?_)
            refine z_iinc C0 hl 4 (t := (k9 : Int)) (u := ((k9 : Int) + 1)) rfl (by omega) [(4, .int (zI ((k9 : Int) + 1))), (3, .int (zI (zwr (k9 : Int)))), (2, .int (zI (k9 : Int))), (0, .ref (ad (b + 1))), (1, .int (zI x0))] (by decide) rfl dX2_nearestBut_47 (fun ls hl => ?_)
            refine z_goto C0 (tgt := 9) dX2_nearestBut_50 (by decide) ?_
            exact ih9 (k9 + 1) (by omega) (k9 : Int) (zwr (k9 : Int)) (zNe_step hn (by first | exact Or.inl ⟨by omega, by assumption, rfl, rfl⟩ | exact Or.inr ⟨by omega, rfl, rfl⟩)) (by omega) (by omega) _ _ _ Wd (lv_sub hl [3, 4, 2, 1, 0] rfl)
  exact lp9 8 0 (by omega) (-1) 1000 rfl (by omega) (by omega) _ _ _ Wd (lv_sub hl [3, 4, 2, 1, 0] rfl)
theorem kv_X2_continueFrom : zKV yX2_continueFrom cX2_continueFrom 4 none "DrumWarren$Burrow" 1 := ⟨zk_834, zk_833, zk_13, zk_27, by decide, by decide, by decide +kernel⟩
set_option maxHeartbeats 4000000 in
set_option maxRecDepth 100000 in
theorem ct_X2_continueFrom (l : Launch) (g : zG) (zX : va_W) (ad : Int → Nat) (zM0 zF0 : zMem) (b : Int) (hb : zB b) (V : Int → Int) (zwr : Int → Int) (x0 : Int) (hx0 : zR x0) (hB : zRB b V zM0) (h8 : V 0 ≤ 8) (hT : ∀ i, 8 ≤ i → i < 72 → 0 ≤ V i ∧ V i ≤ 9) (hN : zTn V) (hW : zM0 (b + 4) = zwr) (hc : zc8 x0) (hR : ∀ v, zc8 v → 0 ≤ zwr v ∧ zwr v ≤ 1000) : zMt l yX2_continueFrom cX2_continueFrom 4 none 2 0 0 g (0, 398, zX) ad [.ref (ad (b + 1)), .int (zI x0)] zM0 zF0 (zPv (fun M' F' => (zrow zM0 (b + 4) (zCo V x0 8 zwr)) = M' ∧ zF0 = F')) := by
  refine zMt.of "DrumWarren$Burrow" rfl (by decide +kernel) (Nat.le_of_ble_eq_true rfl) (fun {p e s m args below meth c ls} C0 Wd hl hret hlk hin => ?_)
  have hl : lv_has ls 4 [(0, .ref (ad (b + 1))), (1, .int (zI x0))] := hl
  have hc0 := hc.1
  have hc1 := hc.2
  refine z_iconst C0 dX2_continueFrom_0 ?_
  refine z_istore_n C0 hl [(2, .int (zI 0)), (0, .ref (ad (b + 1))), (1, .int (zI x0))] (by decide) rfl dX2_continueFrom_1 (fun ls hl => ?_)
  have aft2 : ∀ (k2 : Nat) (hk2 : (k2 : Int) ≤ 8) (v2 : Int → Int) (hv : v2 = zCo V x0 k2 zwr) (hx2 : (k2 : Int) = 8) (H : Heap) (locs : List Loc) (ls : Array Slot) (Wd : zW g (zA (0, 398, zX) ad s.heap.size) s.heap (0, 398, zX) ad (zrow zM0 (b + 4) v2) zF0 H locs) (hl : lv_has ls 4 [(0, .ref (ad (b + 1))), (1, .int (zI x0)), (2, .int (zI (k2 : Int)))]), W p l e (zrm 2 0 0) s m args below meth c H locs 0 0 (zMQ below g (0, 398, zX) ad (zPv (fun M' F' => (zrow zM0 (b + 4) (zCo V x0 8 zwr)) = M' ∧ zF0 = F')) args s 0 0) (F0 m 56 ls []) := by
    intro k2 hk2 v2 hv hx2 H locs ls Wd hl
    replace hl : lv_has ls 4 [(0, .ref (ad (b + 1))), (1, .int (zI x0))] := lv_sub hl [0, 1] rfl
    obtain rfl : k2 = 8 := by omega
    exact z_vret C0 Wd hret hlk ⟨by rw [hv], rfl⟩ dX2_continueFrom_56
  have lp2 : ∀ (d2 k2 : Nat) (hk2 : (k2 : Int) + d2 = 8) (v2 : Int → Int) (hv : v2 = zCo V x0 k2 zwr) (H : Heap) (locs : List Loc) (ls : Array Slot) (Wd : zW g (zA (0, 398, zX) ad s.heap.size) s.heap (0, 398, zX) ad (zrow zM0 (b + 4) v2) zF0 H locs) (hl : lv_has ls 4 [(0, .ref (ad (b + 1))), (1, .int (zI x0)), (2, .int (zI (k2 : Int)))]), W p l e (zrm 2 0 0) s m args below meth c H locs 0 0 (zMQ below g (0, 398, zX) ad (zPv (fun M' F' => (zrow zM0 (b + 4) (zCo V x0 8 zwr)) = M' ∧ zF0 = F')) args s 0 0) (F0 m 2 ls []) := by
    intro d2
    induction d2 with
    | zero =>
      intro k2 hk2 v2 hv H locs ls Wd hl
      have hbv := zCo_bd hc (fun v hv => (hT (8 + 8 * x0 + v) (by have := hv.1; omega) (by have := hv.2; omega)).1) hR k2 (by omega)
      rw [← hv] at hbv
      refine z_iload_n C0 hl 2 rfl dX2_continueFrom_2 ?_
      refine z_bipush C0 dX2_continueFrom_3 (by decide) ?_
      refine z_icmp_ge C0 (tgt := 56) (zR_mk (by omega) (by omega)) (zR_mk (by decide) (by decide)) dX2_continueFrom_5 (by decide) (fun c1 => ?_) (fun c1 => ?_)
      · skip
        first | exact aft2 k2 (by omega) v2 hv (by first | assumption | omega) _ _ _ Wd (lv_sub hl [0, 1, 2] rfl) | (exfalso; omega)
      · skip
        exfalso; omega
    | succ d2 ih2 =>
      intro k2 hk2 v2 hv H locs ls Wd hl
      have hbv := zCo_bd hc (fun v hv => (hT (8 + 8 * x0 + v) (by have := hv.1; omega) (by have := hv.2; omega)).1) hR k2 (by omega)
      rw [← hv] at hbv
      refine z_iload_n C0 hl 2 rfl dX2_continueFrom_2 ?_
      refine z_bipush C0 dX2_continueFrom_3 (by decide) ?_
      refine z_icmp_ge C0 (tgt := 56) (zR_mk (by omega) (by omega)) (zR_mk (by decide) (by decide)) dX2_continueFrom_5 (by decide) (fun c2 => ?_) (fun c2 => ?_)
      · skip
        first | exact aft2 k2 (by omega) v2 hv (by first | assumption | omega) _ _ _ Wd (lv_sub hl [0, 1, 2] rfl) | (exfalso; omega)
      · skip
        refine z_aload_n C0 hl 0 rfl dX2_continueFrom_8 ?_
        refine z_iload_n C0 hl 1 rfl dX2_continueFrom_9 ?_
        refine z_iload_n C0 hl 2 rfl dX2_continueFrom_10 ?_
        refine z_invVi (As := [.int (zI x0), .int (zI (k2 : Int))]) (rest := []) C0 Wd (ct_X2_delayOfTunnel l g zX ad (zrow zM0 (b + 4) v2) zF0 b hb V x0 hx0 (k2 : Int) (zR_mk (by omega) (by omega)) (zRB_w hB) (by omega)) kv_X2_delayOfTunnel (znB1 hb) (zE_1 (zkB1 hb)) rfl zk_598 rfl hl.1 rfl (Nat.le_of_ble_eq_true rfl) (by decide) (by decide) dX2_continueFrom_11 (fun r3 zMr3 zFr3 H locs hrr3 hp Wd => ?_)
        rcases hp with ⟨hr3_0_0, rfl, rfl, rfl⟩ | ⟨hr3_1_0, rfl, rfl, rfl⟩
        · skip
          refine z_istore_n C0 hl [(3, .int (zI (V (8 + 8 * x0 + (k2 : Int))))), (0, .ref (ad (b + 1))), (1, .int (zI x0)), (2, .int (zI (k2 : Int)))] (by decide) rfl dX2_continueFrom_14 (fun ls hl => ?_)
          refine z_iload_n C0 hl 0 rfl dX2_continueFrom_15 ?_
          have hq1 := hbv (k2 : Int) ⟨by omega, by omega⟩
          have hq2 := hbv x0 ⟨by omega, by omega⟩
          have hq3 := hT (8 + 8 * x0 + (k2 : Int)) (by omega) (by omega)
          have hq4 := hN.2 x0 (k2 : Int) ⟨by omega, by omega⟩ ⟨by omega, by omega⟩
          refine z_if_eq C0 (tgt := 50) hrr3 dX2_continueFrom_16 (by decide) (fun c5 => ?_) (fun c5 => ?_)
          · skip
            refine z_iinc C0 hl 3 (t := (k2 : Int)) (u := ((k2 : Int) + 1)) rfl (by omega) [(2, .int (zI ((k2 : Int) + 1))), (3, .int (zI (V (8 + 8 * x0 + (k2 : Int))))), (0, .ref (ad (b + 1))), (1, .int (zI x0))] (by decide) rfl dX2_continueFrom_50 (fun ls hl => ?_)
            refine z_goto C0 (tgt := 2) dX2_continueFrom_53 (by decide) ?_
            exact ih2 (k2 + 1) (by omega) v2 (zCo_step hv (by first | exact Or.inl ⟨by omega, by omega, rfl⟩ | exact Or.inr ⟨by omega, rfl⟩)) _ _ _ Wd (lv_sub hl [2, 3, 0] rfl)
          · skip
            refine z_aload_n C0 hl 1 rfl dX2_continueFrom_19 ?_
            refine zg_1_4 C0 Wd (znB1 hb) (zkB1 hb) zk_100 dX2_continueFrom_20 ?_
            refine z_rf (show ((b + 1) + 3) = (b + 4) by omega) ?_
            refine z_iload_n C0 hl 2 rfl dX2_continueFrom_23 ?_
            refine z_iald C0 Wd (znB4 hb) (zkB4 hb) (zlB4 hb) (by omega) (by omega) (by decide) dX2_continueFrom_24 ?_
            obtain ⟨he8, hz6⟩ : ((zrow zM0 (b + 4) v2) (b + 4) x0) = (v2 x0) ∧ zR (v2 x0) := (fun q => ⟨q, q ▸ Wd.rm _ _⟩) (congrFun (zrow_same _ _ _) _)
            refine z_top (congrArg zI he8) ?_
            clear he8
            refine z_iload_n C0 hl 0 rfl dX2_continueFrom_25 ?_
            refine z_iadd C0 dX2_continueFrom_26 ?_
            refine z_aload_n C0 hl 1 rfl dX2_continueFrom_27 ?_
            refine zg_1_4 C0 Wd (znB1 hb) (zkB1 hb) zk_100 dX2_continueFrom_28 ?_
            refine z_rf (show ((b + 1) + 3) = (b + 4) by omega) ?_
            refine z_iload_n C0 hl 3 rfl dX2_continueFrom_31 ?_
            refine z_iald C0 Wd (znB4 hb) (zkB4 hb) (zlB4 hb) (by omega) (by omega) (by decide) dX2_continueFrom_32 ?_
            obtain ⟨he11, hz9⟩ : ((zrow zM0 (b + 4) v2) (b + 4) (k2 : Int)) = (v2 (k2 : Int)) ∧ zR (v2 (k2 : Int)) := (fun q => ⟨q, q ▸ Wd.rm _ _⟩) (congrFun (zrow_same _ _ _) _)
            refine z_top (congrArg zI he11) ?_
            clear he11
            refine z_icmp_ge C0 (tgt := 50) (by have q0 := hrr3.1; have p0 := hrr3.2; have q1 := hz6.1; have p1 := hz6.2; exact zR_mk (by omega) (by omega)) hz9 dX2_continueFrom_33 (by decide) (fun c12 => ?_) (fun c12 => ?_)
            · skip
              refine z_iinc C0 hl 3 (t := (k2 : Int)) (u := ((k2 : Int) + 1)) rfl (by omega) [(2, .int (zI ((k2 : Int) + 1))), (3, .int (zI (V (8 + 8 * x0 + (k2 : Int))))), (0, .ref (ad (b + 1))), (1, .int (zI x0))] (by decide) rfl dX2_continueFrom_50 (fun ls hl => ?_)
              refine z_goto C0 (tgt := 2) dX2_continueFrom_53 (by decide) ?_
              exact ih2 (k2 + 1) (by omega) v2 (zCo_step hv (by first | exact Or.inl ⟨by omega, by omega, rfl⟩ | exact Or.inr ⟨by omega, rfl⟩)) _ _ _ Wd (lv_sub hl [2, 3, 0] rfl)
            · skip
              refine z_aload_n C0 hl 1 rfl dX2_continueFrom_36 ?_
              refine zg_1_4 C0 Wd (znB1 hb) (zkB1 hb) zk_100 dX2_continueFrom_37 ?_
              refine z_rf (show ((b + 1) + 3) = (b + 4) by omega) ?_
              refine z_iload_n C0 hl 3 rfl dX2_continueFrom_40 ?_
              refine z_aload_n C0 hl 1 rfl dX2_continueFrom_41 ?_
              refine zg_1_4 C0 Wd (znB1 hb) (zkB1 hb) zk_100 dX2_continueFrom_42 ?_
              refine z_rf (show ((b + 1) + 3) = (b + 4) by omega) ?_
              refine z_iload_n C0 hl 2 rfl dX2_continueFrom_45 ?_
              refine z_iald C0 Wd (znB4 hb) (zkB4 hb) (zlB4 hb) (by omega) (by omega) (by decide) dX2_continueFrom_46 ?_
              obtain ⟨he15, hz13⟩ : ((zrow zM0 (b + 4) v2) (b + 4) x0) = (v2 x0) ∧ zR (v2 x0) := (fun q => ⟨q, q ▸ Wd.rm _ _⟩) (congrFun (zrow_same _ _ _) _)
              refine z_top (congrArg zI he15) ?_
              clear he15
              refine z_iload_n C0 hl 0 rfl dX2_continueFrom_47 ?_
              refine z_iadd C0 dX2_continueFrom_48 ?_
              refine z_iast C0 Wd (znB4 hb) (zkB4 hb) (zlB4 hb) (by omega) (by omega) (by decide) (by have q0 := hrr3.1; have p0 := hrr3.2; have q1 := hz13.1; have p1 := hz13.2; exact zR_mk (by omega) (by omega)) dX2_continueFrom_49 (fun H locs Wd => ?_)
              refine z_iinc C0 hl 3 (t := (k2 : Int)) (u := ((k2 : Int) + 1)) rfl (by omega) [(2, .int (zI ((k2 : Int) + 1))), (3, .int (zI (V (8 + 8 * x0 + (k2 : Int))))), (0, .ref (ad (b + 1))), (1, .int (zI x0))] (by decide) rfl dX2_continueFrom_50 (fun ls hl => ?_)
              refine z_goto C0 (tgt := 2) dX2_continueFrom_53 (by decide) ?_
              exact ih2 (k2 + 1) (by omega) (zup v2 (k2 : Int) ((v2 x0) + (V (8 + 8 * x0 + (k2 : Int))))) (zCo_step hv (by first | exact Or.inl ⟨by omega, by omega, rfl⟩ | exact Or.inr ⟨by omega, rfl⟩)) _ _ _ (by rw [← zu_zrow]; exact Wd) (lv_sub hl [2, 3, 0] rfl)
        · skip
          refine z_istore_n C0 hl [(3, .int (zI 0)), (0, .ref (ad (b + 1))), (1, .int (zI x0)), (2, .int (zI (k2 : Int)))] (by decide) rfl dX2_continueFrom_14 (fun ls hl => ?_)
          refine z_iload_n C0 hl 0 rfl dX2_continueFrom_15 ?_
          have hq1 := hbv (k2 : Int) ⟨by omega, by omega⟩
          have hq2 := hbv x0 ⟨by omega, by omega⟩
          have hq3 := hT (8 + 8 * x0 + (k2 : Int)) (by omega) (by omega)
          have hq4 := hN.2 x0 (k2 : Int) ⟨by omega, by omega⟩ ⟨by omega, by omega⟩
          refine z_if_eq C0 (tgt := 50) (zR_mk (by decide) (by decide)) dX2_continueFrom_16 (by decide) (fun _ => ?_) (fun h => absurd h (by decide))
          refine z_iinc C0 hl 3 (t := (k2 : Int)) (u := ((k2 : Int) + 1)) rfl (by omega) [(2, .int (zI ((k2 : Int) + 1))), (3, .int (zI 0)), (0, .ref (ad (b + 1))), (1, .int (zI x0))] (by decide) rfl dX2_continueFrom_50 (fun ls hl => ?_)
          refine z_goto C0 (tgt := 2) dX2_continueFrom_53 (by decide) ?_
          exact ih2 (k2 + 1) (by omega) v2 (zCo_step hv (by first | exact Or.inl ⟨by omega, by omega, rfl⟩ | exact Or.inr ⟨by omega, rfl⟩)) _ _ _ Wd (lv_sub hl [2, 3, 0] rfl)
  exact lp2 8 0 (by omega) zwr rfl _ _ _ (by rw [← hW, zrow_eta]; exact Wd) (lv_sub hl [1, 2, 0] rfl)
theorem kv_X2_searchWay : zKV yX2_searchWay cX2_searchWay 6 (some .int) "DrumWarren$Burrow" 2 := ⟨zk_826, zk_824, zk_825, zk_27, by decide, by decide, by decide +kernel⟩
set_option maxHeartbeats 4000000 in
set_option maxRecDepth 100000 in
theorem ct_X2_searchWay (l : Launch) (g : zG) (zX : va_W) (ad : Int → Nat) (zM0 zF0 : zMem) (b : Int) (hb : zB b) (V : Int → Int) (x0 : Int) (hx0 : zR x0) (x1 : Int) (hx1 : zR x1) (hB : zRB b V zM0) (h8 : V 0 ≤ 8) (hT : ∀ i, 8 ≤ i → i < 72 → 0 ≤ V i ∧ V i ≤ 9) (hN : zTn V) : zMt l yX2_searchWay cX2_searchWay 6 (some .int) 3 0 0 g (0, 398, zX) ad [.ref (ad (b + 1)), .int (zI x0), .int (zI x1)] zM0 zF0 (zPi (fun r M' F' => (∃ w : Int → Int, (zisC V x0 ∧ zisC V x1) ∧ (zBF V x0 x1) = r ∧ (zrow zM0 (b + 4) w) = M' ∧ zF0 = F') ∨ ((¬ (zisC V x0 ∧ zisC V x1)) ∧ 1000 = r ∧ zM0 = M' ∧ zF0 = F'))) := by
  refine zMt.of "DrumWarren$Burrow" rfl (by decide +kernel) (Nat.le_of_ble_eq_true rfl) (fun {p e s m args below meth c ls} C0 Wd hl hret hlk hin => ?_)
  have hl : lv_has ls 6 [(0, .ref (ad (b + 1))), (1, .int (zI x0)), (2, .int (zI x1))] := hl
  refine z_aload_n C0 hl 0 rfl dX2_searchWay_0 ?_
  refine z_iload_n C0 hl 1 rfl dX2_searchWay_1 ?_
  refine z_invVi (As := [.int (zI x0)]) (rest := []) C0 Wd (ct_X2_has l g zX ad zM0 zF0 b hb V x0 hx0 hB) kv_X2_has (znB1 hb) (zE_1 (zkB1 hb)) rfl zk_590 rfl hl.1 rfl (Nat.le_of_ble_eq_true rfl) (by decide) (by decide) dX2_searchWay_2 (fun r1 zMr1 zFr1 H locs hrr1 hp Wd => ?_)
  obtain ⟨rfl, rfl, rfl⟩ := hp
  refine z_if_eq_b C0 (tgt := 16) dX2_searchWay_5 (by decide) (fun c3 => ?_) (fun c3 => ?_)
  · skip
    refine z_sipush C0 dX2_searchWay_16 (by decide) ?_
    exact z_iret C0 Wd hret hlk (zR_mk (by decide) (by decide)) (Or.inr ⟨by omega, rfl, rfl, rfl⟩) dX2_searchWay_19
  · skip
    refine z_aload_n C0 hl 0 rfl dX2_searchWay_8 ?_
    refine z_iload_n C0 hl 2 rfl dX2_searchWay_9 ?_
    refine z_invVi (As := [.int (zI x1)]) (rest := []) C0 Wd (ct_X2_has l g zX ad zM0 zF0 b hb V x1 hx1 hB) kv_X2_has (znB1 hb) (zE_1 (zkB1 hb)) rfl zk_590 rfl hl.1 rfl (Nat.le_of_ble_eq_true rfl) (by decide) (by decide) dX2_searchWay_10 (fun r4 zMr4 zFr4 H locs hrr4 hp Wd => ?_)
    obtain ⟨rfl, rfl, rfl⟩ := hp
    refine z_if_ne_b C0 (tgt := 20) dX2_searchWay_13 (by decide) (fun c6 => ?_) (fun c6 => ?_)
    · skip
      refine z_iconst C0 dX2_searchWay_20 ?_
      refine z_istore_n C0 hl [(3, .int (zI 0)), (0, .ref (ad (b + 1))), (1, .int (zI x0)), (2, .int (zI x1))] (by decide) rfl dX2_searchWay_21 (fun ls hl => ?_)
      have aft22 : ∀ (k22 : Nat) (hk22 : (k22 : Int) ≤ 8) (v22 : Int → Int) (hv22 : ∀ i, 0 ≤ i → i < (k22 : Int) → v22 i = zNr x0 i) (hx22 : (k22 : Int) = 8) (H : Heap) (locs : List Loc) (ls : Array Slot) (Wd : zW g (zA (0, 398, zX) ad s.heap.size) s.heap (0, 398, zX) ad (zrow zM0 (b + 4) v22) zF0 H locs) (hl : lv_has ls 6 [(0, .ref (ad (b + 1))), (1, .int (zI x0)), (2, .int (zI x1)), (3, .int (zI (k22 : Int)))]), W p l e (zrm 3 0 0) s m args below meth c H locs 0 0 (zMQ below g (0, 398, zX) ad (zPi (fun r M' F' => (∃ w : Int → Int, (zisC V x0 ∧ zisC V x1) ∧ (zBF V x0 x1) = r ∧ (zrow zM0 (b + 4) w) = M' ∧ zF0 = F') ∨ ((¬ (zisC V x0 ∧ zisC V x1)) ∧ 1000 = r ∧ zM0 = M' ∧ zF0 = F'))) args s 0 0) (F0 m 52 ls []) := by
        intro k22 hk22 v22 hv22 hx22 H locs ls Wd hl
        replace hl : lv_has ls 6 [(0, .ref (ad (b + 1))), (1, .int (zI x0)), (2, .int (zI x1))] := lv_sub hl [0, 1, 2] rfl
        have hw22 : ∀ v, 0 ≤ v → v < 8 → v22 v = zNr x0 v := fun v h0 h1 => hv22 v h0 (by omega)
        have hx0 : zc8 x0 := ⟨by omega, by omega⟩
        refine z_iconst C0 dX2_searchWay_52 ?_
        refine z_istore_n C0 hl [(3, .int (zI 0)), (0, .ref (ad (b + 1))), (1, .int (zI x0)), (2, .int (zI x1))] (by decide) rfl dX2_searchWay_53 (fun ls hl => ?_)
        refine z_iconst C0 dX2_searchWay_54 ?_
        refine z_istore C0 hl [(4, .int (zI 0)), (3, .int (zI 0)), (0, .ref (ad (b + 1))), (1, .int (zI x0)), (2, .int (zI x1))] (by decide) rfl dX2_searchWay_55 (fun ls hl => ?_)
        have aft57 : ∀ (k57 : Nat) (hk57 : (k57 : Int) ≤ 8) (u3 : Int) (v57 : Int → Int) (hd : zDjW V v22 k57 = (v57, u3)) (hx57 : (k57 : Int) = 8) (H : Heap) (locs : List Loc) (ls : Array Slot) (Wd : zW g (zA (0, 398, zX) ad s.heap.size) s.heap (0, 398, zX) ad (zrow zM0 (b + 4) v57) zF0 H locs) (hl : lv_has ls 6 [(0, .ref (ad (b + 1))), (1, .int (zI x0)), (2, .int (zI x1)), (3, .int (zI u3)), (4, .int (zI (k57 : Int)))]), W p l e (zrm 3 0 0) s m args below meth c H locs 0 0 (zMQ below g (0, 398, zX) ad (zPi (fun r M' F' => (∃ w : Int → Int, (zisC V x0 ∧ zisC V x1) ∧ (zBF V x0 x1) = r ∧ (zrow zM0 (b + 4) w) = M' ∧ zF0 = F') ∨ ((¬ (zisC V x0 ∧ zisC V x1)) ∧ 1000 = r ∧ zM0 = M' ∧ zF0 = F'))) args s 0 0) (F0 m 96 ls []) := by
          intro k57 hk57 u3 v57 hd hx57 H locs ls Wd hl
          replace hl : lv_has ls 6 [(0, .ref (ad (b + 1))), (1, .int (zI x0)), (2, .int (zI x1)), (3, .int (zI u3))] := lv_sub hl [0, 1, 2, 3] rfl
          obtain rfl : k57 = 8 := by omega
          refine z_aload_n C0 hl 0 rfl dX2_searchWay_96 ?_
          refine zg_1_4 C0 Wd (znB1 hb) (zkB1 hb) zk_100 dX2_searchWay_97 ?_
          refine z_rf (show ((b + 1) + 3) = (b + 4) by omega) ?_
          refine z_iload_n C0 hl 2 rfl dX2_searchWay_100 ?_
          refine z_iald C0 Wd (znB4 hb) (zkB4 hb) (zlB4 hb) (by omega) (by omega) (by decide) dX2_searchWay_101 ?_
          obtain ⟨he8, hz7⟩ : ((zrow zM0 (b + 4) v57) (b + 4) x1) = (zBF V x0 x1) ∧ zR (zBF V x0 x1) := (fun q => ⟨q, q ▸ Wd.rm _ _⟩) ((congrFun (zrow_same _ _ _) _).trans (by have e := zDjW_BF hT hx0 hw22 (v := x1) ⟨by omega, by omega⟩; rw [hd] at e; exact e))
          refine z_top (congrArg zI he8) ?_
          clear he8
          exact z_iret C0 Wd hret hlk hz7 (Or.inl ⟨_, by omega, rfl, rfl, rfl⟩) dX2_searchWay_102
        have lp57 : ∀ (d57 k57 : Nat) (hk57 : (k57 : Int) + d57 = 8) (u3 : Int) (v57 : Int → Int) (hd : zDjW V v22 k57 = (v57, u3)) (H : Heap) (locs : List Loc) (ls : Array Slot) (Wd : zW g (zA (0, 398, zX) ad s.heap.size) s.heap (0, 398, zX) ad (zrow zM0 (b + 4) v57) zF0 H locs) (hl : lv_has ls 6 [(0, .ref (ad (b + 1))), (1, .int (zI x0)), (2, .int (zI x1)), (3, .int (zI u3)), (4, .int (zI (k57 : Int)))]), W p l e (zrm 3 0 0) s m args below meth c H locs 0 0 (zMQ below g (0, 398, zX) ad (zPi (fun r M' F' => (∃ w : Int → Int, (zisC V x0 ∧ zisC V x1) ∧ (zBF V x0 x1) = r ∧ (zrow zM0 (b + 4) w) = M' ∧ zF0 = F') ∨ ((¬ (zisC V x0 ∧ zisC V x1)) ∧ 1000 = r ∧ zM0 = M' ∧ zF0 = F'))) args s 0 0) (F0 m 57 ls []) := by
          intro d57
          induction d57 with
          | zero =>
            intro k57 hk57 u3 v57 hd H locs ls Wd hl
            have hI9 := zDjW_I hT hx0 hw22 k57
            rw [hd] at hI9
            have hfb : 0 ≤ u3 ∧ u3 < 256 := hI9.2.1
            have hrb : ∀ v, zc8 v → 0 ≤ v57 v ∧ v57 v ≤ 1000 := hI9.1.2
            refine z_iload C0 hl 4 rfl dX2_searchWay_57 ?_
            refine z_bipush C0 dX2_searchWay_59 (by decide) ?_
            refine z_icmp_ge C0 (tgt := 96) (zR_mk (by omega) (by omega)) (zR_mk (by decide) (by decide)) dX2_searchWay_61 (by decide) (fun c9 => ?_) (fun c9 => ?_)
            · skip
              first | exact aft57 k57 (by omega) u3 v57 hd (by first | assumption | omega) _ _ _ Wd (lv_sub hl [0, 1, 2, 3, 4] rfl) | (exfalso; omega)
            · skip
              exfalso; omega
          | succ d57 ih57 =>
            intro k57 hk57 u3 v57 hd H locs ls Wd hl
            have hI9 := zDjW_I hT hx0 hw22 k57
            rw [hd] at hI9
            have hfb : 0 ≤ u3 ∧ u3 < 256 := hI9.2.1
            have hrb : ∀ v, zc8 v → 0 ≤ v57 v ∧ v57 v ≤ 1000 := hI9.1.2
            refine z_iload C0 hl 4 rfl dX2_searchWay_57 ?_
            refine z_bipush C0 dX2_searchWay_59 (by decide) ?_
            refine z_icmp_ge C0 (tgt := 96) (zR_mk (by omega) (by omega)) (zR_mk (by decide) (by decide)) dX2_searchWay_61 (by decide) (fun c10 => ?_) (fun c10 => ?_)
            · skip
              first | exact aft57 k57 (by omega) u3 v57 hd (by first | assumption | omega) _ _ _ Wd (lv_sub hl [0, 1, 2, 3, 4] rfl) | (exfalso; omega)
            · skip
              refine z_aload_n C0 hl 0 rfl dX2_searchWay_64 ?_
              refine z_iload_n C0 hl 3 rfl dX2_searchWay_65 ?_
              refine z_invVi (As := [.int (zI u3)]) (rest := []) C0 Wd (ct_X2_nearestBut l g zX ad (zrow zM0 (b + 4) v57) zF0 b hb v57 u3 (zR_mk (by omega) (by omega)) (zrow_same _ _ _) hfb hrb) kv_X2_nearestBut (znB1 hb) (zE_1 (zkB1 hb)) rfl zk_827 rfl hl.1 rfl (Nat.le_of_ble_eq_true rfl) (by decide) (by decide) dX2_searchWay_66 (fun r11 zMr11 zFr11 H locs hrr11 hp Wd => ?_)
              rcases hp with ⟨r1_r11, hr11_0_0, rfl, rfl, rfl⟩
              · skip
                refine z_istore C0 hl [(5, .int (zI r1_r11)), (0, .ref (ad (b + 1))), (1, .int (zI x0)), (2, .int (zI x1)), (3, .int (zI u3)), (4, .int (zI (k57 : Int)))] (by decide) rfl dX2_searchWay_69 (fun ls hl => ?_)
                have hne := zNe_is (r := v57) (f := u3) 8 (by omega)
                rw [← hr11_0_0] at hne
                refine z_iload C0 hl 0 rfl dX2_searchWay_71 ?_
                refine z_iconst C0 dX2_searchWay_73 ?_
                refine z_icmp_eq C0 (tgt := 90) hrr11 (zR_mk (by decide) (by decide)) dX2_searchWay_74 (by decide) (fun c13 => ?_) (fun c13 => ?_)
                · skip
                  refine z_iinc C0 hl 5 (t := (k57 : Int)) (u := ((k57 : Int) + 1)) rfl (by omega) [(4, .int (zI ((k57 : Int) + 1))), (5, .int (zI r1_r11)), (0, .ref (ad (b + 1))), (1, .int (zI x0)), (2, .int (zI x1)), (3, .int (zI u3))] (by decide) rfl dX2_searchWay_90 (fun ls hl => ?_)
                  refine z_goto C0 (tgt := 57) dX2_searchWay_93 (by decide) ?_
                  exact ih57 (k57 + 1) (by omega) u3 v57 (zDjW_step hd (by assumption) (by first | exact Or.inl ⟨by assumption, rfl, rfl⟩ | exact Or.inr ⟨by assumption, rfl, rfl⟩)) _ _ _ Wd (lv_sub hl [2, 3, 4, 5, 0] rfl)
                · skip
                  have hne2 : (0 ≤ r1_r11 ∧ r1_r11 < 8) ∧ zbi u3 r1_r11 = 0 := by rcases hne with ⟨z, -, -⟩ | ⟨z1, z2, z3, -⟩ <;> first | omega | exact ⟨⟨z1, z2⟩, z3⟩
                  have hne3 := hne2.2
                  have hne4 := (zbi_add hfb ⟨hne2.1.1, hne2.1.2⟩ hne3).2
                  refine z_iload_n C0 hl 4 rfl dX2_searchWay_77 ?_
                  refine z_iconst C0 dX2_searchWay_78 ?_
                  refine z_iload C0 hl 0 rfl dX2_searchWay_79 ?_
                  refine z_ishl C0 (v := (2 ^ r1_r11.toNat)) (zI_shl1 ⟨by omega, by omega⟩) dX2_searchWay_81 ?_
                  refine z_ior C0 (v := (u3 + (2 ^ r1_r11.toNat))) (zbit_or hfb ⟨by omega, by omega⟩ (by assumption)) dX2_searchWay_82 ?_
                  refine z_istore_n C0 hl [(3, .int (zI (u3 + (2 ^ r1_r11.toNat)))), (5, .int (zI r1_r11)), (0, .ref (ad (b + 1))), (1, .int (zI x0)), (2, .int (zI x1)), (4, .int (zI (k57 : Int)))] (by decide) rfl dX2_searchWay_83 (fun ls hl => ?_)
                  refine z_aload_n C0 hl 2 rfl dX2_searchWay_84 ?_
                  refine z_iload C0 hl 1 rfl dX2_searchWay_85 ?_
                  refine z_invVv (As := [.int (zI r1_r11)]) (rest := []) C0 Wd (ct_X2_continueFrom l g zX ad (zrow zM0 (b + 4) v57) zF0 b hb V v57 r1_r11 hrr11 (zRB_w hB) h8 hT hN (zrow_same _ _ _) ⟨by omega, by omega⟩ hrb) kv_X2_continueFrom (znB1 hb) (zE_1 (zkB1 hb)) rfl zk_831 rfl hl.1 rfl (Nat.le_of_ble_eq_true rfl) (by decide) (by decide) dX2_searchWay_87 (fun zMr14 zFr14 H locs hp Wd => ?_)
                  obtain ⟨rfl, rfl⟩ := hp
                  refine z_iinc C0 hl 5 (t := (k57 : Int)) (u := ((k57 : Int) + 1)) rfl (by omega) [(4, .int (zI ((k57 : Int) + 1))), (3, .int (zI (u3 + (2 ^ r1_r11.toNat)))), (5, .int (zI r1_r11)), (0, .ref (ad (b + 1))), (1, .int (zI x0)), (2, .int (zI x1))] (by decide) rfl dX2_searchWay_90 (fun ls hl => ?_)
                  refine z_goto C0 (tgt := 57) dX2_searchWay_93 (by decide) ?_
                  exact ih57 (k57 + 1) (by omega) (u3 + (2 ^ r1_r11.toNat)) (zCo V r1_r11 8 v57) (zDjW_step hd (by assumption) (by first | exact Or.inl ⟨by assumption, rfl, rfl⟩ | exact Or.inr ⟨by assumption, rfl, rfl⟩)) _ _ _ (Wd.mem (zrow_twice _ _ _ _)) (lv_sub hl [3, 4, 5, 1, 0] rfl)
        exact lp57 8 0 (by omega) 0 v22 rfl _ _ _ Wd (lv_sub hl [2, 3, 4, 1, 0] rfl)
      have lp22 : ∀ (d22 k22 : Nat) (hk22 : (k22 : Int) + d22 = 8) (v22 : Int → Int) (hv22 : ∀ i, 0 ≤ i → i < (k22 : Int) → v22 i = zNr x0 i) (H : Heap) (locs : List Loc) (ls : Array Slot) (Wd : zW g (zA (0, 398, zX) ad s.heap.size) s.heap (0, 398, zX) ad (zrow zM0 (b + 4) v22) zF0 H locs) (hl : lv_has ls 6 [(0, .ref (ad (b + 1))), (1, .int (zI x0)), (2, .int (zI x1)), (3, .int (zI (k22 : Int)))]), W p l e (zrm 3 0 0) s m args below meth c H locs 0 0 (zMQ below g (0, 398, zX) ad (zPi (fun r M' F' => (∃ w : Int → Int, (zisC V x0 ∧ zisC V x1) ∧ (zBF V x0 x1) = r ∧ (zrow zM0 (b + 4) w) = M' ∧ zF0 = F') ∨ ((¬ (zisC V x0 ∧ zisC V x1)) ∧ 1000 = r ∧ zM0 = M' ∧ zF0 = F'))) args s 0 0) (F0 m 22 ls []) := by
        intro d22
        induction d22 with
        | zero =>
          intro k22 hk22 v22 hv22 H locs ls Wd hl
          refine z_iload_n C0 hl 3 rfl dX2_searchWay_22 ?_
          refine z_bipush C0 dX2_searchWay_23 (by decide) ?_
          refine z_icmp_ge C0 (tgt := 52) (zR_mk (by omega) (by omega)) (zR_mk (by decide) (by decide)) dX2_searchWay_25 (by decide) (fun c16 => ?_) (fun c16 => ?_)
          · skip
            first | exact aft22 k22 (by omega) v22 hv22 (by first | assumption | omega) _ _ _ Wd (lv_sub hl [0, 1, 2, 3] rfl) | (exfalso; omega)
          · skip
            exfalso; omega
        | succ d22 ih22 =>
          intro k22 hk22 v22 hv22 H locs ls Wd hl
          refine z_iload_n C0 hl 3 rfl dX2_searchWay_22 ?_
          refine z_bipush C0 dX2_searchWay_23 (by decide) ?_
          refine z_icmp_ge C0 (tgt := 52) (zR_mk (by omega) (by omega)) (zR_mk (by decide) (by decide)) dX2_searchWay_25 (by decide) (fun c17 => ?_) (fun c17 => ?_)
          · skip
            first | exact aft22 k22 (by omega) v22 hv22 (by first | assumption | omega) _ _ _ Wd (lv_sub hl [0, 1, 2, 3] rfl) | (exfalso; omega)
          · skip
            refine z_aload_n C0 hl 0 rfl dX2_searchWay_28 ?_
            refine zg_1_4 C0 Wd (znB1 hb) (zkB1 hb) zk_100 dX2_searchWay_29 ?_
            refine z_rf (show ((b + 1) + 3) = (b + 4) by omega) ?_
            refine z_iload_n C0 hl 3 rfl dX2_searchWay_32 ?_
            refine z_iload_n C0 hl 3 rfl dX2_searchWay_33 ?_
            refine z_iload_n C0 hl 1 rfl dX2_searchWay_34 ?_
            refine z_icmp_ne C0 (tgt := 42) (zR_mk (by omega) (by omega)) hx0 dX2_searchWay_35 (by decide) (fun c18 => ?_) (fun c18 => ?_)
            · skip
              refine z_sipush C0 dX2_searchWay_42 (by decide) ?_
              refine z_iast C0 Wd (znB4 hb) (zkB4 hb) (zlB4 hb) (by omega) (by omega) (by decide) (zR_mk (by decide) (by decide)) dX2_searchWay_45 (fun H locs Wd => ?_)
              refine z_iinc C0 hl 3 (t := (k22 : Int)) (u := ((k22 : Int) + 1)) rfl (by omega) [(3, .int (zI ((k22 : Int) + 1))), (0, .ref (ad (b + 1))), (1, .int (zI x0)), (2, .int (zI x1))] (by decide) rfl dX2_searchWay_46 (fun ls hl => ?_)
              refine z_goto C0 (tgt := 22) dX2_searchWay_49 (by decide) ?_
              exact ih22 (k22 + 1) (by omega) (zup v22 (k22 : Int) 1000) (zNr_step hv22 (by first | (rw [zNr, if_pos (by omega)]; done) | (rw [zNr, if_neg (by omega)]; done))) _ _ _ (by rw [← zu_zrow]; exact Wd) (lv_sub hl [1, 2, 3, 0] rfl)
            · skip
              refine z_iconst C0 dX2_searchWay_38 ?_
              refine z_goto C0 (tgt := 45) dX2_searchWay_39 (by decide) ?_
              refine z_iast C0 Wd (znB4 hb) (zkB4 hb) (zlB4 hb) (by omega) (by omega) (by decide) (zR_mk (by decide) (by decide)) dX2_searchWay_45 (fun H locs Wd => ?_)
              refine z_iinc C0 hl 3 (t := (k22 : Int)) (u := ((k22 : Int) + 1)) rfl (by omega) [(3, .int (zI ((k22 : Int) + 1))), (0, .ref (ad (b + 1))), (1, .int (zI x0)), (2, .int (zI x1))] (by decide) rfl dX2_searchWay_46 (fun ls hl => ?_)
              refine z_goto C0 (tgt := 22) dX2_searchWay_49 (by decide) ?_
              exact ih22 (k22 + 1) (by omega) (zup v22 (k22 : Int) 0) (zNr_step hv22 (by first | (rw [zNr, if_pos (by omega)]; done) | (rw [zNr, if_neg (by omega)]; done))) _ _ _ (by rw [← zu_zrow]; exact Wd) (lv_sub hl [1, 2, 3, 0] rfl)
      exact lp22 8 0 (by omega) (zM0 (b + 4)) (fun i h0 h1 => by omega) _ _ _ (by rw [zrow_eta]; exact Wd) (lv_sub hl [1, 2, 3, 0] rfl)
    · skip
      refine z_sipush C0 dX2_searchWay_16 (by decide) ?_
      exact z_iret C0 Wd hret hlk (zR_mk (by decide) (by decide)) (Or.inr ⟨by omega, rfl, rfl, rfl⟩) dX2_searchWay_19
theorem kv_X2_waysAgree : zKV yX2_waysAgree cX2_waysAgree 3 (some .boolean) "DrumWarren$Burrow" 0 := ⟨zk_1418, zk_1416, zk_1417, zk_27, by decide, by decide, by decide +kernel⟩
set_option maxHeartbeats 4000000 in
set_option maxRecDepth 100000 in
theorem ct_X2_waysAgree (l : Launch) (g : zG) (zX : va_W) (ad : Int → Nat) (zM0 zF0 : zMem) (b : Int) (hb : zB b) (V : Int → Int) (hB : zRB b V zM0) (h0 : 0 ≤ V 0) (h8 : V 0 ≤ 8) (hT : ∀ i, 8 ≤ i → i < 72 → 0 ≤ V i ∧ V i ≤ 9) (hN : zTn V) : zMt l yX2_waysAgree cX2_waysAgree 3 (some .boolean) 4 0 0 g (0, 398, zX) ad [.ref (ad (b + 1))] zM0 zF0 (zPi (fun r M' F' => (∃ w : Int → Int, 1 = r ∧ (zrow zM0 (b + 4) w) = M' ∧ zF0 = F'))) := by
  refine zMt.of "DrumWarren$Burrow" rfl (by decide +kernel) (Nat.le_of_ble_eq_true rfl) (fun {p e s m args below meth c ls} C0 Wd hl hret hlk hin => ?_)
  have hl : lv_has ls 3 [(0, .ref (ad (b + 1)))] := hl
  have e0 := hB.1
  refine z_iconst C0 dX2_waysAgree_0 ?_
  refine z_istore_n C0 hl [(1, .int (zI 0)), (0, .ref (ad (b + 1)))] (by decide) rfl dX2_waysAgree_1 (fun ls hl => ?_)
  have aft2 : ∀ (k2 : Nat) (hk2 : (k2 : Int) ≤ (V 0)) (v2 : Int → Int) (hx2 : (k2 : Int) = (V 0)) (H : Heap) (locs : List Loc) (ls : Array Slot) (Wd : zW g (zA (0, 398, zX) ad s.heap.size) s.heap (0, 398, zX) ad (zrow zM0 (b + 4) v2) zF0 H locs) (hl : lv_has ls 3 [(0, .ref (ad (b + 1))), (1, .int (zI (k2 : Int)))]), W p l e (zrm 4 0 0) s m args below meth c H locs 0 0 (zMQ below g (0, 398, zX) ad (zPi (fun r M' F' => (∃ w : Int → Int, 1 = r ∧ (zrow zM0 (b + 4) w) = M' ∧ zF0 = F'))) args s 0 0) (F0 m 49 ls []) := by
    intro k2 hk2 v2 hx2 H locs ls Wd hl
    replace hl : lv_has ls 3 [(0, .ref (ad (b + 1)))] := lv_sub hl [0] rfl
    refine z_iconst C0 dX2_waysAgree_49 ?_
    exact z_zret C0 Wd hret hlk (by decide) ⟨_, rfl, rfl, rfl⟩ dX2_waysAgree_50
  have lp2 : ∀ (d2 k2 : Nat) (hk2 : (k2 : Int) + d2 = (V 0)) (v2 : Int → Int) (H : Heap) (locs : List Loc) (ls : Array Slot) (Wd : zW g (zA (0, 398, zX) ad s.heap.size) s.heap (0, 398, zX) ad (zrow zM0 (b + 4) v2) zF0 H locs) (hl : lv_has ls 3 [(0, .ref (ad (b + 1))), (1, .int (zI (k2 : Int)))]), W p l e (zrm 4 0 0) s m args below meth c H locs 0 0 (zMQ below g (0, 398, zX) ad (zPi (fun r M' F' => (∃ w : Int → Int, 1 = r ∧ (zrow zM0 (b + 4) w) = M' ∧ zF0 = F'))) args s 0 0) (F0 m 2 ls []) := by
    intro d2
    induction d2 with
    | zero =>
      intro k2 hk2 v2 H locs ls Wd hl
      refine z_iload_n C0 hl 1 rfl dX2_waysAgree_2 ?_
      refine z_aload_n C0 hl 0 rfl dX2_waysAgree_3 ?_
      refine zg_1_0 C0 Wd (znB1 hb) (zkB1 hb) zk_93 dX2_waysAgree_4 ?_
      obtain ⟨he2, hz1⟩ : ((zrow zM0 (b + 4) v2) (b + 1) 0) = (V 0) ∧ zR (V 0) := (fun q => ⟨q, q ▸ Wd.rm _ _⟩) ((congrFun (zrow_ne (by omega)) _).trans e0)
      refine z_top (congrArg zI he2) ?_
      clear he2
      refine z_icmp_ge C0 (tgt := 49) (zR_mk (by omega) (by omega)) hz1 dX2_waysAgree_7 (by decide) (fun c3 => ?_) (fun c3 => ?_)
      · skip
        first | exact aft2 k2 (by omega) v2 (by first | assumption | omega) _ _ _ Wd (lv_sub hl [0, 1] rfl) | (exfalso; omega)
      · skip
        exfalso; omega
    | succ d2 ih2 =>
      intro k2 hk2 v2 H locs ls Wd hl
      refine z_iload_n C0 hl 1 rfl dX2_waysAgree_2 ?_
      refine z_aload_n C0 hl 0 rfl dX2_waysAgree_3 ?_
      refine zg_1_0 C0 Wd (znB1 hb) (zkB1 hb) zk_93 dX2_waysAgree_4 ?_
      obtain ⟨he5, hz4⟩ : ((zrow zM0 (b + 4) v2) (b + 1) 0) = (V 0) ∧ zR (V 0) := (fun q => ⟨q, q ▸ Wd.rm _ _⟩) ((congrFun (zrow_ne (by omega)) _).trans e0)
      refine z_top (congrArg zI he5) ?_
      clear he5
      refine z_icmp_ge C0 (tgt := 49) (zR_mk (by omega) (by omega)) hz4 dX2_waysAgree_7 (by decide) (fun c6 => ?_) (fun c6 => ?_)
      · skip
        first | exact aft2 k2 (by omega) v2 (by first | assumption | omega) _ _ _ Wd (lv_sub hl [0, 1] rfl) | (exfalso; omega)
      · skip
        refine z_iconst C0 dX2_waysAgree_10 ?_
        refine z_istore_n C0 hl [(2, .int (zI 0)), (0, .ref (ad (b + 1))), (1, .int (zI (k2 : Int)))] (by decide) rfl dX2_waysAgree_11 (fun ls hl => ?_)
        have aft12 : ∀ (k12 : Nat) (hk12 : (k12 : Int) ≤ (V 0)) (v12 : Int → Int) (hx12 : (k12 : Int) = (V 0)) (H : Heap) (locs : List Loc) (ls : Array Slot) (Wd : zW g (zA (0, 398, zX) ad s.heap.size) s.heap (0, 398, zX) ad (zrow zM0 (b + 4) v12) zF0 H locs) (hl : lv_has ls 3 [(0, .ref (ad (b + 1))), (1, .int (zI (k2 : Int))), (2, .int (zI (k12 : Int)))]), W p l e (zrm 4 0 0) s m args below meth c H locs 0 0 (zMQ below g (0, 398, zX) ad (zPi (fun r M' F' => (∃ w : Int → Int, 1 = r ∧ (zrow zM0 (b + 4) w) = M' ∧ zF0 = F'))) args s 0 0) (F0 m 43 ls []) := by
          intro k12 hk12 v12 hx12 H locs ls Wd hl
          replace hl : lv_has ls 3 [(0, .ref (ad (b + 1))), (1, .int (zI (k2 : Int)))] := lv_sub hl [0, 1] rfl
          refine z_iinc C0 hl 1 (t := (k2 : Int)) (u := ((k2 : Int) + 1)) rfl (by omega) [(1, .int (zI ((k2 : Int) + 1))), (0, .ref (ad (b + 1)))] (by decide) rfl dX2_waysAgree_43 (fun ls hl => ?_)
          refine z_goto C0 (tgt := 2) dX2_waysAgree_46 (by decide) ?_
          exact ih2 (k2 + 1) (by omega) v12 _ _ _ Wd (lv_sub hl [1, 0] rfl)
        have lp12 : ∀ (d12 k12 : Nat) (hk12 : (k12 : Int) + d12 = (V 0)) (v12 : Int → Int) (H : Heap) (locs : List Loc) (ls : Array Slot) (Wd : zW g (zA (0, 398, zX) ad s.heap.size) s.heap (0, 398, zX) ad (zrow zM0 (b + 4) v12) zF0 H locs) (hl : lv_has ls 3 [(0, .ref (ad (b + 1))), (1, .int (zI (k2 : Int))), (2, .int (zI (k12 : Int)))]), W p l e (zrm 4 0 0) s m args below meth c H locs 0 0 (zMQ below g (0, 398, zX) ad (zPi (fun r M' F' => (∃ w : Int → Int, 1 = r ∧ (zrow zM0 (b + 4) w) = M' ∧ zF0 = F'))) args s 0 0) (F0 m 12 ls []) := by
          intro d12
          induction d12 with
          | zero =>
            intro k12 hk12 v12 H locs ls Wd hl
            refine z_iload_n C0 hl 2 rfl dX2_waysAgree_12 ?_
            refine z_aload_n C0 hl 0 rfl dX2_waysAgree_13 ?_
            refine zg_1_0 C0 Wd (znB1 hb) (zkB1 hb) zk_93 dX2_waysAgree_14 ?_
            obtain ⟨he8, hz7⟩ : ((zrow zM0 (b + 4) v12) (b + 1) 0) = (V 0) ∧ zR (V 0) := (fun q => ⟨q, q ▸ Wd.rm _ _⟩) ((congrFun (zrow_ne (by omega)) _).trans e0)
            refine z_top (congrArg zI he8) ?_
            clear he8
            refine z_icmp_ge C0 (tgt := 43) (zR_mk (by omega) (by omega)) hz7 dX2_waysAgree_17 (by decide) (fun c9 => ?_) (fun c9 => ?_)
            · skip
              first | exact aft12 k12 (by omega) v12 (by first | assumption | omega) _ _ _ Wd (lv_sub hl [0, 1, 2] rfl) | (exfalso; omega)
            · skip
              exfalso; omega
          | succ d12 ih12 =>
            intro k12 hk12 v12 H locs ls Wd hl
            refine z_iload_n C0 hl 2 rfl dX2_waysAgree_12 ?_
            refine z_aload_n C0 hl 0 rfl dX2_waysAgree_13 ?_
            refine zg_1_0 C0 Wd (znB1 hb) (zkB1 hb) zk_93 dX2_waysAgree_14 ?_
            obtain ⟨he11, hz10⟩ : ((zrow zM0 (b + 4) v12) (b + 1) 0) = (V 0) ∧ zR (V 0) := (fun q => ⟨q, q ▸ Wd.rm _ _⟩) ((congrFun (zrow_ne (by omega)) _).trans e0)
            refine z_top (congrArg zI he11) ?_
            clear he11
            refine z_icmp_ge C0 (tgt := 43) (zR_mk (by omega) (by omega)) hz10 dX2_waysAgree_17 (by decide) (fun c12 => ?_) (fun c12 => ?_)
            · skip
              first | exact aft12 k12 (by omega) v12 (by first | assumption | omega) _ _ _ Wd (lv_sub hl [0, 1, 2] rfl) | (exfalso; omega)
            · skip
              refine z_aload_n C0 hl 0 rfl dX2_waysAgree_20 ?_
              refine z_iload_n C0 hl 1 rfl dX2_waysAgree_21 ?_
              refine z_iload_n C0 hl 2 rfl dX2_waysAgree_22 ?_
              refine z_invVi (As := [.int (zI (k2 : Int)), .int (zI (k12 : Int))]) (rest := []) C0 Wd (ct_X2_delayOfWay l g zX ad (zrow zM0 (b + 4) v12) zF0 b hb V (k2 : Int) (zR_mk (by omega) (by omega)) (k12 : Int) (zR_mk (by omega) (by omega)) (zRB_w hB) (by omega)) kv_X2_delayOfWay (znB1 hb) (zE_1 (zkB1 hb)) rfl zk_1419 rfl hl.1 rfl (Nat.le_of_ble_eq_true rfl) (by decide) (by decide) dX2_waysAgree_23 (fun r13 zMr13 zFr13 H locs hrr13 hp Wd => ?_)
              rcases hp with ⟨hr13_0_0, rfl, rfl, rfl⟩ | ⟨hr13_1_0, rfl, rfl, rfl⟩
              · skip
                refine z_aload_n C0 hl 0 rfl dX2_waysAgree_26 ?_
                refine z_iload_n C0 hl 1 rfl dX2_waysAgree_27 ?_
                refine z_iload_n C0 hl 2 rfl dX2_waysAgree_28 ?_
                refine z_invVi (As := [.int (zI (k2 : Int)), .int (zI (k12 : Int))]) (rest := [.int (zI (zBF V (k2 : Int) (k12 : Int)))]) C0 Wd (ct_X2_searchWay l g zX ad (zrow zM0 (b + 4) v12) zF0 b hb V (k2 : Int) (zR_mk (by omega) (by omega)) (k12 : Int) (zR_mk (by omega) (by omega)) (zRB_w hB) (by omega) hT hN) kv_X2_searchWay (znB1 hb) (zE_1 (zkB1 hb)) rfl zk_1420 rfl hl.1 rfl (Nat.le_of_ble_eq_true rfl) (by decide) (by decide) dX2_waysAgree_29 (fun r15 zMr15 zFr15 H locs hrr15 hp Wd => ?_)
                rcases hp with ⟨w_r15, hr15_0_0, rfl, rfl, rfl⟩ | ⟨hr15_1_0, rfl, rfl, rfl⟩
                · skip
                  refine z_icmp_eq C0 (tgt := 37) hrr13 hrr15 dX2_waysAgree_32 (by decide) (fun c17 => ?_) (fun c17 => absurd c17 (fun z => z rfl))
                  refine z_iinc C0 hl 2 (t := (k12 : Int)) (u := ((k12 : Int) + 1)) rfl (by omega) [(2, .int (zI ((k12 : Int) + 1))), (0, .ref (ad (b + 1))), (1, .int (zI (k2 : Int)))] (by decide) rfl dX2_waysAgree_37 (fun ls hl => ?_)
                  refine z_goto C0 (tgt := 12) dX2_waysAgree_40 (by decide) ?_
                  exact ih12 (k12 + 1) (by omega) w_r15 _ _ _ (Wd.mem (zrow_twice _ _ _ _)) (lv_sub hl [1, 2, 0] rfl)
                · skip
                  exfalso; omega
              · skip
                exfalso; omega
        exact lp12 ((V 0)).toNat 0 (by omega) v2 _ _ _ Wd (lv_sub hl [1, 2, 0] rfl)
  exact lp2 ((V 0)).toNat 0 (by omega) (zM0 (b + 4)) _ _ _ (by rw [zrow_eta]; exact Wd) (lv_sub hl [1, 0] rfl)
theorem kv_X2_join : zKV yX2_join cX2_join 4 none "DrumWarren$Burrow" 3 := ⟨zk_605, zk_604, zk_3, zk_27, by decide, by decide, by decide +kernel⟩
set_option maxHeartbeats 4000000 in
set_option maxRecDepth 100000 in
theorem ct_X2_join (l : Launch) (g : zG) (zX : va_W) (ad : Int → Nat) (zM0 zF0 : zMem) (b : Int) (hb : zB b) (V : Int → Int) (x0 : Int) (hx0 : zR x0) (x1 : Int) (hx1 : zR x1) (x2 : Int) (hx2 : zR x2) (hB : zRB b V zM0) (h8 : V 0 ≤ 8) (hT : ∀ i, 8 ≤ i → i < 72 → 0 ≤ V i ∧ V i ≤ 9) (i0 : zisC V x0) (i1 : zisC V x1) (h2 : 0 ≤ x2 ∧ x2 ≤ 9) : zMt l yX2_join cX2_join 4 none 2 0 0 g (0, 398, zX) ad [.ref (ad (b + 1)), .int (zI x0), .int (zI x1), .int (zI x2)] zM0 zF0 (zPv (fun M' F' => (∃ w : Int → Int, (∀ x y, zc8 x → zc8 y → w (8 * x + y) = zBF (zup (zup V (8 + 8 * x0 + x1) x2) (8 + 8 * x1 + x0) x2) x y) ∧ (zrow (zu (zu zM0 (b + 2) ((x0 * 8) + x1) x2) (b + 2) ((x1 * 8) + x0) x2) (b + 3) w) = M' ∧ zF0 = F'))) := by
  refine zMt.of "DrumWarren$Burrow" rfl (by decide +kernel) (Nat.le_of_ble_eq_true rfl) (fun {p e s m args below meth c ls} C0 Wd hl hret hlk hin => ?_)
  have hl : lv_has ls 4 [(0, .ref (ad (b + 1))), (1, .int (zI x0)), (2, .int (zI x1)), (3, .int (zI x2))] := hl
  refine z_aload_n C0 hl 0 rfl dX2_join_0 ?_
  refine z_iload_n C0 hl 1 rfl dX2_join_1 ?_
  refine z_invVi (As := [.int (zI x0)]) (rest := []) C0 Wd (ct_X2_has l g zX ad zM0 zF0 b hb V x0 hx0 hB) kv_X2_has (znB1 hb) (zE_1 (zkB1 hb)) rfl zk_590 rfl hl.1 rfl (Nat.le_of_ble_eq_true rfl) (by decide) (by decide) dX2_join_2 (fun r1 zMr1 zFr1 H locs hrr1 hp Wd => ?_)
  obtain ⟨rfl, rfl, rfl⟩ := hp
  refine z_if_eq_b C0 (tgt := 44) dX2_join_5 (by decide) (fun c3 => absurd c3 (fun z => z (by omega))) (fun c3 => ?_)
  refine z_aload_n C0 hl 0 rfl dX2_join_8 ?_
  refine z_iload_n C0 hl 2 rfl dX2_join_9 ?_
  refine z_invVi (As := [.int (zI x1)]) (rest := []) C0 Wd (ct_X2_has l g zX ad zM0 zF0 b hb V x1 hx1 hB) kv_X2_has (znB1 hb) (zE_1 (zkB1 hb)) rfl zk_590 rfl hl.1 rfl (Nat.le_of_ble_eq_true rfl) (by decide) (by decide) dX2_join_10 (fun r4 zMr4 zFr4 H locs hrr4 hp Wd => ?_)
  obtain ⟨rfl, rfl, rfl⟩ := hp
  refine z_if_eq_b C0 (tgt := 44) dX2_join_13 (by decide) (fun c6 => absurd c6 (fun z => z (by omega))) (fun c6 => ?_)
  refine z_aload_n C0 hl 0 rfl dX2_join_16 ?_
  refine zg_1_2 C0 Wd (znB1 hb) (zkB1 hb) zk_98 dX2_join_17 ?_
  refine z_rf (show ((b + 1) + 1) = (b + 2) by omega) ?_
  refine z_iload_n C0 hl 1 rfl dX2_join_20 ?_
  refine z_bipush C0 dX2_join_21 (by decide) ?_
  refine z_imul C0 dX2_join_23 ?_
  refine z_iload_n C0 hl 2 rfl dX2_join_24 ?_
  refine z_iadd C0 dX2_join_25 ?_
  refine z_iload_n C0 hl 3 rfl dX2_join_26 ?_
  refine z_iast C0 Wd (znB2 hb) (zkB2 hb) (zlB2 hb) (by omega) (by omega) (by decide) hx2 dX2_join_27 (fun H locs Wd => ?_)
  refine z_aload_n C0 hl 0 rfl dX2_join_28 ?_
  refine zg_1_2 C0 Wd (znB1 hb) (zkB1 hb) zk_98 dX2_join_29 ?_
  refine z_rf (show ((b + 1) + 1) = (b + 2) by omega) ?_
  refine z_iload_n C0 hl 2 rfl dX2_join_32 ?_
  refine z_bipush C0 dX2_join_33 (by decide) ?_
  refine z_imul C0 dX2_join_35 ?_
  refine z_iload_n C0 hl 1 rfl dX2_join_36 ?_
  refine z_iadd C0 dX2_join_37 ?_
  refine z_iload_n C0 hl 3 rfl dX2_join_38 ?_
  refine z_iast C0 Wd (znB2 hb) (zkB2 hb) (zlB2 hb) (by omega) (by omega) (by decide) hx2 dX2_join_39 (fun H locs Wd => ?_)
  refine z_aload_n C0 hl 0 rfl dX2_join_40 ?_
  refine z_invVv (As := []) (rest := []) C0 Wd (ct_X2_improveAllPairs l g zX ad (zu (zu zM0 (b + 2) ((x0 * 8) + x1) x2) (b + 2) ((x1 * 8) + x0) x2) zF0 b hb (zup (zup V (8 + 8 * x0 + x1) x2) (8 + 8 * x1 + x0) x2) (zRt_join hB.2.1 ⟨by omega, by omega⟩ ⟨by omega, by omega⟩) (fun i h0 h9 => by have := hT i h0 h9; unfold zup; split <;> first | omega | (split <;> omega))) kv_X2_improveAllPairs (znB1 hb) (zE_1 (zkB1 hb)) rfl zk_85 rfl hl.1 rfl (Nat.le_of_ble_eq_true rfl) (by decide) (by decide) dX2_join_41 (fun zMr7 zFr7 H locs hp Wd => ?_)
  rcases hp with ⟨w_r7, hr7_0_0, rfl, rfl⟩
  · skip
    exact z_vret C0 Wd hret hlk ⟨_, hr7_0_0, rfl, rfl⟩ dX2_join_44
