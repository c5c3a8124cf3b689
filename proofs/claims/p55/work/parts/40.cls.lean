/-! the class: ways -/
theorem kv_X2_improveFrom : zKV yX2_improveFrom cX2_improveFrom 6 none "DrumWarren$Burrow" 2 := ⟨zk_92, zk_91, zk_1, zk_27, by decide, by decide, by decide +kernel⟩
set_option maxHeartbeats 4000000 in
set_option maxRecDepth 100000 in
theorem ct_X2_improveFrom (l : Launch) (g : zG) (zX : va_W) (ad : Int → Nat) (zM0 zF0 : zMem) (b : Int) (hb : zB b) (zwr : Int → Int) (x0 : Int) (hx0 : zR x0) (x1 : Int) (hx1 : zR x1) (hW : zM0 (b + 3) = zwr) (h0 : zc8 x0) (h1 : zc8 x1) (hB : zb64 zwr) : zMt l yX2_improveFrom cX2_improveFrom 6 none 0 0 0 g (0, 398, zX) ad [.ref (ad (b + 1)), .int (zI x0), .int (zI x1)] zM0 zF0 (zPv (fun M' F' => (zrow zM0 (b + 3) (zfF x0 x1 (zwr (8 * x0 + x1)) 8 zwr)) = M' ∧ zF0 = F')) := by
  refine zMt.of "DrumWarren$Burrow" rfl (by decide +kernel) (Nat.le_of_ble_eq_true rfl) (fun {p e s m args below meth c ls} C0 Wd hl hret hlk hin => ?_)
  have hl : lv_has ls 6 [(0, .ref (ad (b + 1))), (1, .int (zI x0)), (2, .int (zI x1))] := hl
  have h0a := h0.1
  have h0b := h0.2
  have h1a := h1.1
  have h1b := h1.2
  have hfp := hB (8 * x0 + x1) (by omega) (by omega)
  refine z_aload_n C0 hl 0 rfl dX2_improveFrom_0 ?_
  refine zg_1_3 C0 Wd (znB1 hb) (zkB1 hb) zk_99 dX2_improveFrom_1 ?_
  refine z_rf (show ((b + 1) + 2) = (b + 3) by omega) ?_
  refine z_iload_n C0 hl 1 rfl dX2_improveFrom_4 ?_
  refine z_bipush C0 dX2_improveFrom_5 (by decide) ?_
  refine z_imul C0 dX2_improveFrom_7 ?_
  refine z_iload_n C0 hl 2 rfl dX2_improveFrom_8 ?_
  refine z_iadd C0 dX2_improveFrom_9 ?_
  refine z_iald C0 Wd (znB3 hb) (zkB3 hb) (zlB3 hb) (by omega) (by omega) (by decide) dX2_improveFrom_10 ?_
  obtain ⟨he2, hz1⟩ : (zM0 (b + 3) ((x0 * 8) + x1)) = (zwr (8 * x0 + x1)) ∧ zR (zwr (8 * x0 + x1)) := (fun q => ⟨q, q ▸ Wd.rm _ _⟩) (by rw [hW, Int.mul_comm])
  refine z_top (congrArg zI he2) ?_
  clear he2
  refine z_istore_n C0 hl [(3, .int (zI (zwr (8 * x0 + x1)))), (0, .ref (ad (b + 1))), (1, .int (zI x0)), (2, .int (zI x1))] (by decide) rfl dX2_improveFrom_11 (fun ls hl => ?_)
  refine z_iconst C0 dX2_improveFrom_12 ?_
  refine z_istore C0 hl [(4, .int (zI 0)), (3, .int (zI (zwr (8 * x0 + x1)))), (0, .ref (ad (b + 1))), (1, .int (zI x0)), (2, .int (zI x1))] (by decide) rfl dX2_improveFrom_13 (fun ls hl => ?_)
  have aft15 : ∀ (k15 : Nat) (hk15 : (k15 : Int) ≤ 8) (v15 : Int → Int) (hv : v15 = zfF x0 x1 (zwr (8 * x0 + x1)) k15 zwr) (hx15 : (k15 : Int) = 8) (H : Heap) (locs : List Loc) (ls : Array Slot) (Wd : zW g (zA (0, 398, zX) ad s.heap.size) s.heap (0, 398, zX) ad (zrow zM0 (b + 3) v15) zF0 H locs) (hl : lv_has ls 6 [(0, .ref (ad (b + 1))), (1, .int (zI x0)), (2, .int (zI x1)), (3, .int (zI (zwr (8 * x0 + x1)))), (4, .int (zI (k15 : Int)))]), W p l e (zrm 0 0 0) s m args below meth c H locs 0 0 (zMQ below g (0, 398, zX) ad (zPv (fun M' F' => (zrow zM0 (b + 3) (zfF x0 x1 (zwr (8 * x0 + x1)) 8 zwr)) = M' ∧ zF0 = F')) args s 0 0) (F0 m 75 ls []) := by
    intro k15 hk15 v15 hv hx15 H locs ls Wd hl
    replace hl : lv_has ls 6 [(0, .ref (ad (b + 1))), (1, .int (zI x0)), (2, .int (zI x1)), (3, .int (zI (zwr (8 * x0 + x1))))] := lv_sub hl [0, 1, 2, 3] rfl
    obtain rfl : k15 = 8 := by omega
    exact z_vret C0 Wd hret hlk ⟨by rw [hv], rfl⟩ dX2_improveFrom_75
  have lp15 : ∀ (d15 k15 : Nat) (hk15 : (k15 : Int) + d15 = 8) (v15 : Int → Int) (hv : v15 = zfF x0 x1 (zwr (8 * x0 + x1)) k15 zwr) (H : Heap) (locs : List Loc) (ls : Array Slot) (Wd : zW g (zA (0, 398, zX) ad s.heap.size) s.heap (0, 398, zX) ad (zrow zM0 (b + 3) v15) zF0 H locs) (hl : lv_has ls 6 [(0, .ref (ad (b + 1))), (1, .int (zI x0)), (2, .int (zI x1)), (3, .int (zI (zwr (8 * x0 + x1)))), (4, .int (zI (k15 : Int)))]), W p l e (zrm 0 0 0) s m args below meth c H locs 0 0 (zMQ below g (0, 398, zX) ad (zPv (fun M' F' => (zrow zM0 (b + 3) (zfF x0 x1 (zwr (8 * x0 + x1)) 8 zwr)) = M' ∧ zF0 = F')) args s 0 0) (F0 m 15 ls []) := by
    intro d15
    induction d15 with
    | zero =>
      intro k15 hk15 v15 hv H locs ls Wd hl
      have hbv := zfF_bd h0 h1 hfp.1 hB k15 (by omega)
      rw [← hv] at hbv
      refine z_iload C0 hl 4 rfl dX2_improveFrom_15 ?_
      refine z_bipush C0 dX2_improveFrom_17 (by decide) ?_
      refine z_icmp_ge C0 (tgt := 75) (zR_mk (by omega) (by omega)) (zR_mk (by decide) (by decide)) dX2_improveFrom_19 (by decide) (fun c3 => ?_) (fun c3 => ?_)
      · skip
        first | exact aft15 k15 (by omega) v15 hv (by first | assumption | omega) _ _ _ Wd (lv_sub hl [0, 1, 2, 3, 4] rfl) | (exfalso; omega)
      · skip
        exfalso; omega
    | succ d15 ih15 =>
      intro k15 hk15 v15 hv H locs ls Wd hl
      have hbv := zfF_bd h0 h1 hfp.1 hB k15 (by omega)
      rw [← hv] at hbv
      refine z_iload C0 hl 4 rfl dX2_improveFrom_15 ?_
      refine z_bipush C0 dX2_improveFrom_17 (by decide) ?_
      refine z_icmp_ge C0 (tgt := 75) (zR_mk (by omega) (by omega)) (zR_mk (by decide) (by decide)) dX2_improveFrom_19 (by decide) (fun c4 => ?_) (fun c4 => ?_)
      · skip
        first | exact aft15 k15 (by omega) v15 hv (by first | assumption | omega) _ _ _ Wd (lv_sub hl [0, 1, 2, 3, 4] rfl) | (exfalso; omega)
      · skip
        refine z_iload_n C0 hl 3 rfl dX2_improveFrom_22 ?_
        refine z_aload_n C0 hl 0 rfl dX2_improveFrom_23 ?_
        refine zg_1_3 C0 Wd (znB1 hb) (zkB1 hb) zk_99 dX2_improveFrom_24 ?_
        refine z_rf (show ((b + 1) + 2) = (b + 3) by omega) ?_
        refine z_iload_n C0 hl 2 rfl dX2_improveFrom_27 ?_
        refine z_bipush C0 dX2_improveFrom_28 (by decide) ?_
        refine z_imul C0 dX2_improveFrom_30 ?_
        refine z_iload C0 hl 4 rfl dX2_improveFrom_31 ?_
        refine z_iadd C0 dX2_improveFrom_33 ?_
        refine z_iald C0 Wd (znB3 hb) (zkB3 hb) (zlB3 hb) (by omega) (by omega) (by decide) dX2_improveFrom_34 ?_
        obtain ⟨he7, hz5⟩ : ((zrow zM0 (b + 3) v15) (b + 3) ((x1 * 8) + (k15 : Int))) = (v15 ((x1 * 8) + (k15 : Int))) ∧ zR (v15 ((x1 * 8) + (k15 : Int))) := (fun q => ⟨q, q ▸ Wd.rm _ _⟩) (congrFun (zrow_same _ _ _) _)
        refine z_top (congrArg zI he7) ?_
        clear he7
        have hq1 := hbv (x1 * 8 + (k15 : Int)) (by omega) (by omega)
        have hq2 := hbv (x0 * 8 + (k15 : Int)) (by omega) (by omega)
        refine z_iadd C0 dX2_improveFrom_35 ?_
        refine z_istore C0 hl [(5, .int (zI ((zwr (8 * x0 + x1)) + (v15 ((x1 * 8) + (k15 : Int)))))), (0, .ref (ad (b + 1))), (1, .int (zI x0)), (2, .int (zI x1)), (3, .int (zI (zwr (8 * x0 + x1)))), (4, .int (zI (k15 : Int)))] (by decide) rfl dX2_improveFrom_36 (fun ls hl => ?_)
        refine z_iload C0 hl 0 rfl dX2_improveFrom_38 ?_
        refine z_aload_n C0 hl 1 rfl dX2_improveFrom_40 ?_
        refine zg_1_3 C0 Wd (znB1 hb) (zkB1 hb) zk_99 dX2_improveFrom_41 ?_
        refine z_rf (show ((b + 1) + 2) = (b + 3) by omega) ?_
        refine z_iload_n C0 hl 2 rfl dX2_improveFrom_44 ?_
        refine z_bipush C0 dX2_improveFrom_45 (by decide) ?_
        refine z_imul C0 dX2_improveFrom_47 ?_
        refine z_iload C0 hl 5 rfl dX2_improveFrom_48 ?_
        refine z_iadd C0 dX2_improveFrom_50 ?_
        refine z_iald C0 Wd (znB3 hb) (zkB3 hb) (zlB3 hb) (by omega) (by omega) (by decide) dX2_improveFrom_51 ?_
        obtain ⟨he10, hz8⟩ : ((zrow zM0 (b + 3) v15) (b + 3) ((x0 * 8) + (k15 : Int))) = (v15 ((x0 * 8) + (k15 : Int))) ∧ zR (v15 ((x0 * 8) + (k15 : Int))) := (fun q => ⟨q, q ▸ Wd.rm _ _⟩) (congrFun (zrow_same _ _ _) _)
        refine z_top (congrArg zI he10) ?_
        clear he10
        refine z_icmp_ge C0 (tgt := 69) (by have q0 := hz1.1; have p0 := hz1.2; have q1 := hz5.1; have p1 := hz5.2; exact zR_mk (by omega) (by omega)) hz8 dX2_improveFrom_52 (by decide) (fun c11 => ?_) (fun c11 => ?_)
        · skip
          refine z_iinc C0 hl 5 (t := (k15 : Int)) (u := ((k15 : Int) + 1)) rfl (by omega) [(4, .int (zI ((k15 : Int) + 1))), (5, .int (zI ((zwr (8 * x0 + x1)) + (v15 ((x1 * 8) + (k15 : Int)))))), (0, .ref (ad (b + 1))), (1, .int (zI x0)), (2, .int (zI x1)), (3, .int (zI (zwr (8 * x0 + x1))))] (by decide) rfl dX2_improveFrom_69 (fun ls hl => ?_)
          refine z_goto C0 (tgt := 15) dX2_improveFrom_72 (by decide) ?_
          exact ih15 (k15 + 1) (by omega) v15 (zfF_step hv (by first | exact Or.inl ⟨by assumption, rfl⟩ | exact Or.inr ⟨by omega, rfl⟩)) _ _ _ Wd (lv_sub hl [2, 3, 4, 5, 0] rfl)
        · skip
          refine z_aload_n C0 hl 1 rfl dX2_improveFrom_55 ?_
          refine zg_1_3 C0 Wd (znB1 hb) (zkB1 hb) zk_99 dX2_improveFrom_56 ?_
          refine z_rf (show ((b + 1) + 2) = (b + 3) by omega) ?_
          refine z_iload_n C0 hl 2 rfl dX2_improveFrom_59 ?_
          refine z_bipush C0 dX2_improveFrom_60 (by decide) ?_
          refine z_imul C0 dX2_improveFrom_62 ?_
          refine z_iload C0 hl 5 rfl dX2_improveFrom_63 ?_
          refine z_iadd C0 dX2_improveFrom_65 ?_
          refine z_iload C0 hl 0 rfl dX2_improveFrom_66 ?_
          refine z_iast C0 Wd (znB3 hb) (zkB3 hb) (zlB3 hb) (by omega) (by omega) (by decide) (by have q0 := hz1.1; have p0 := hz1.2; have q1 := hz5.1; have p1 := hz5.2; exact zR_mk (by omega) (by omega)) dX2_improveFrom_68 (fun H locs Wd => ?_)
          refine z_iinc C0 hl 5 (t := (k15 : Int)) (u := ((k15 : Int) + 1)) rfl (by omega) [(4, .int (zI ((k15 : Int) + 1))), (5, .int (zI ((zwr (8 * x0 + x1)) + (v15 ((x1 * 8) + (k15 : Int)))))), (0, .ref (ad (b + 1))), (1, .int (zI x0)), (2, .int (zI x1)), (3, .int (zI (zwr (8 * x0 + x1))))] (by decide) rfl dX2_improveFrom_69 (fun ls hl => ?_)
          refine z_goto C0 (tgt := 15) dX2_improveFrom_72 (by decide) ?_
          exact ih15 (k15 + 1) (by omega) (zup v15 ((x0 * 8) + (k15 : Int)) ((zwr (8 * x0 + x1)) + (v15 ((x1 * 8) + (k15 : Int))))) (zfF_step hv (by first | exact Or.inl ⟨by assumption, rfl⟩ | exact Or.inr ⟨by omega, rfl⟩)) _ _ _ (by rw [← zu_zrow]; exact Wd) (lv_sub hl [2, 3, 4, 5, 0] rfl)
  exact lp15 8 0 (by omega) zwr rfl _ _ _ (by rw [← hW, zrow_eta]; exact Wd) (lv_sub hl [2, 3, 4, 1, 0] rfl)
theorem kv_X2_improveAllPairs : zKV yX2_improveAllPairs cX2_improveAllPairs 3 none "DrumWarren$Burrow" 0 := ⟨zk_88, zk_87, zk_0, zk_27, by decide, by decide, by decide +kernel⟩
set_option maxHeartbeats 4000000 in
set_option maxRecDepth 100000 in
theorem ct_X2_improveAllPairs (l : Launch) (g : zG) (zX : va_W) (ad : Int → Nat) (zM0 zF0 : zMem) (b : Int) (hb : zB b) (V : Int → Int) (ht : zRt b V zM0) (hT : ∀ i, 8 ≤ i → i < 72 → 0 ≤ V i ∧ V i ≤ 9) : zMt l yX2_improveAllPairs cX2_improveAllPairs 3 none 1 0 0 g (0, 398, zX) ad [.ref (ad (b + 1))] zM0 zF0 (zPv (fun M' F' => (∃ w : Int → Int, (∀ x y, zc8 x → zc8 y → w (8 * x + y) = zBF V x y) ∧ (zrow zM0 (b + 3) w) = M' ∧ zF0 = F'))) := by
  refine zMt.of "DrumWarren$Burrow" rfl (by decide +kernel) (Nat.le_of_ble_eq_true rfl) (fun {p e s m args below meth c ls} C0 Wd hl hret hlk hin => ?_)
  have hl : lv_has ls 3 [(0, .ref (ad (b + 1)))] := hl
  refine z_iconst C0 dX2_improveAllPairs_0 ?_
  refine z_istore_n C0 hl [(1, .int (zI 0)), (0, .ref (ad (b + 1)))] (by decide) rfl dX2_improveAllPairs_1 (fun ls hl => ?_)
  have aft2 : ∀ (k2 : Nat) (hk2 : (k2 : Int) ≤ 64) (v2 : Int → Int) (hv2 : ∀ i, 0 ≤ i → i < (k2 : Int) → v2 i = if V (8 + i) = 0 then 1000 else V (8 + i)) (hx2 : (k2 : Int) = 64) (H : Heap) (locs : List Loc) (ls : Array Slot) (Wd : zW g (zA (0, 398, zX) ad s.heap.size) s.heap (0, 398, zX) ad (zrow zM0 (b + 3) v2) zF0 H locs) (hl : lv_has ls 3 [(0, .ref (ad (b + 1))), (1, .int (zI (k2 : Int)))]), W p l e (zrm 1 0 0) s m args below meth c H locs 0 0 (zMQ below g (0, 398, zX) ad (zPv (fun M' F' => (∃ w : Int → Int, (∀ x y, zc8 x → zc8 y → w (8 * x + y) = zBF V x y) ∧ (zrow zM0 (b + 3) w) = M' ∧ zF0 = F'))) args s 0 0) (F0 m 41 ls []) := by
    intro k2 hk2 v2 hv2 hx2 H locs ls Wd hl
    replace hl : lv_has ls 3 [(0, .ref (ad (b + 1)))] := lv_sub hl [0] rfl
    have hv64 : ∀ i, 0 ≤ i → i < 64 → v2 i = if V (8 + i) = 0 then 1000 else V (8 + i) := fun i h0 h1 => hv2 i h0 (by omega)
    refine z_iconst C0 dX2_improveAllPairs_41 ?_
    refine z_istore_n C0 hl [(1, .int (zI 0)), (0, .ref (ad (b + 1)))] (by decide) rfl dX2_improveAllPairs_42 (fun ls hl => ?_)
    have aft43 : ∀ (k43 : Nat) (hk43 : (k43 : Int) ≤ 8) (v43 : Int → Int) (hv43 : ∀ i j, zc8 i → zc8 j → v43 (8 * i + j) = if i = j ∧ i < (k43 : Int) then 0 else (if V (8 + (8 * i + j)) = 0 then 1000 else V (8 + (8 * i + j)))) (hx43 : (k43 : Int) = 8) (H : Heap) (locs : List Loc) (ls : Array Slot) (Wd : zW g (zA (0, 398, zX) ad s.heap.size) s.heap (0, 398, zX) ad (zrow zM0 (b + 3) v43) zF0 H locs) (hl : lv_has ls 3 [(0, .ref (ad (b + 1))), (1, .int (zI (k43 : Int)))]), W p l e (zrm 1 0 0) s m args below meth c H locs 0 0 (zMQ below g (0, 398, zX) ad (zPv (fun M' F' => (∃ w : Int → Int, (∀ x y, zc8 x → zc8 y → w (8 * x + y) = zBF V x y) ∧ (zrow zM0 (b + 3) w) = M' ∧ zF0 = F'))) args s 0 0) (F0 m 67 ls []) := by
      intro k43 hk43 v43 hv43 hx43 H locs ls Wd hl
      replace hl : lv_has ls 3 [(0, .ref (ad (b + 1)))] := lv_sub hl [0] rfl
      have hw0 : ∀ i j, zc8 i → zc8 j → v43 (8 * i + j) = if i = j then 0 else (if V (8 + (8 * i + j)) = 0 then 1000 else V (8 + (8 * i + j))) := fun i j hi hj => by
          have := hi.1
          have := hi.2
          rw [hv43 i j hi hj]
          by_cases e : i = j <;> first | (rw [if_pos (by omega), if_pos e]; done) | (rw [if_neg (by omega), if_neg e]; done)
      have hb0 : zb64 v43 := fun i h0 h1 => by
          have e := hw0 (i / 8) (i % 8) ⟨by omega, by omega⟩ ⟨by omega, by omega⟩
          have hq := hT (8 + (8 * (i / 8) + i % 8)) (by omega) (by omega)
          rw [show 8 * (i / 8) + i % 8 = i by omega] at e hq
          rw [e]
          split
          · omega
          · split <;> omega
      refine z_iconst C0 dX2_improveAllPairs_67 ?_
      refine z_istore_n C0 hl [(1, .int (zI 0)), (0, .ref (ad (b + 1)))] (by decide) rfl dX2_improveAllPairs_68 (fun ls hl => ?_)
      have aft69 : ∀ (k69 : Nat) (hk69 : (k69 : Int) ≤ 8) (v69 : Int → Int) (hv69 : v69 = zfA k69 v43) (hx69 : (k69 : Int) = 8) (H : Heap) (locs : List Loc) (ls : Array Slot) (Wd : zW g (zA (0, 398, zX) ad s.heap.size) s.heap (0, 398, zX) ad (zrow zM0 (b + 3) v69) zF0 H locs) (hl : lv_has ls 3 [(0, .ref (ad (b + 1))), (1, .int (zI (k69 : Int)))]), W p l e (zrm 1 0 0) s m args below meth c H locs 0 0 (zMQ below g (0, 398, zX) ad (zPv (fun M' F' => (∃ w : Int → Int, (∀ x y, zc8 x → zc8 y → w (8 * x + y) = zBF V x y) ∧ (zrow zM0 (b + 3) w) = M' ∧ zF0 = F'))) args s 0 0) (F0 m 101 ls []) := by
        intro k69 hk69 v69 hv69 hx69 H locs ls Wd hl
        replace hl : lv_has ls 3 [(0, .ref (ad (b + 1)))] := lv_sub hl [0] rfl
        obtain rfl : k69 = 8 := by omega
        exact z_vret C0 Wd hret hlk ⟨_, fun x y hx hy => by rw [hv69]; exact zfA_BF hT hw0 hx hy, rfl, rfl⟩ dX2_improveAllPairs_101
      have lp69 : ∀ (d69 k69 : Nat) (hk69 : (k69 : Int) + d69 = 8) (v69 : Int → Int) (hv69 : v69 = zfA k69 v43) (H : Heap) (locs : List Loc) (ls : Array Slot) (Wd : zW g (zA (0, 398, zX) ad s.heap.size) s.heap (0, 398, zX) ad (zrow zM0 (b + 3) v69) zF0 H locs) (hl : lv_has ls 3 [(0, .ref (ad (b + 1))), (1, .int (zI (k69 : Int)))]), W p l e (zrm 1 0 0) s m args below meth c H locs 0 0 (zMQ below g (0, 398, zX) ad (zPv (fun M' F' => (∃ w : Int → Int, (∀ x y, zc8 x → zc8 y → w (8 * x + y) = zBF V x y) ∧ (zrow zM0 (b + 3) w) = M' ∧ zF0 = F'))) args s 0 0) (F0 m 69 ls []) := by
        intro d69
        induction d69 with
        | zero =>
          intro k69 hk69 v69 hv69 H locs ls Wd hl
          have hb69 := zfA_bd hb0 k69 (by omega)
          rw [← hv69] at hb69
          refine z_iload_n C0 hl 1 rfl dX2_improveAllPairs_69 ?_
          refine z_bipush C0 dX2_improveAllPairs_70 (by decide) ?_
          refine z_icmp_ge C0 (tgt := 101) (zR_mk (by omega) (by omega)) (zR_mk (by decide) (by decide)) dX2_improveAllPairs_72 (by decide) (fun c1 => ?_) (fun c1 => ?_)
          · skip
            first | exact aft69 k69 (by omega) v69 hv69 (by first | assumption | omega) _ _ _ Wd (lv_sub hl [0, 1] rfl) | (exfalso; omega)
          · skip
            exfalso; omega
        | succ d69 ih69 =>
          intro k69 hk69 v69 hv69 H locs ls Wd hl
          have hb69 := zfA_bd hb0 k69 (by omega)
          rw [← hv69] at hb69
          refine z_iload_n C0 hl 1 rfl dX2_improveAllPairs_69 ?_
          refine z_bipush C0 dX2_improveAllPairs_70 (by decide) ?_
          refine z_icmp_ge C0 (tgt := 101) (zR_mk (by omega) (by omega)) (zR_mk (by decide) (by decide)) dX2_improveAllPairs_72 (by decide) (fun c2 => ?_) (fun c2 => ?_)
          · skip
            first | exact aft69 k69 (by omega) v69 hv69 (by first | assumption | omega) _ _ _ Wd (lv_sub hl [0, 1] rfl) | (exfalso; omega)
          · skip
            refine z_iconst C0 dX2_improveAllPairs_75 ?_
            refine z_istore_n C0 hl [(2, .int (zI 0)), (0, .ref (ad (b + 1))), (1, .int (zI (k69 : Int)))] (by decide) rfl dX2_improveAllPairs_76 (fun ls hl => ?_)
            have aft77 : ∀ (k77 : Nat) (hk77 : (k77 : Int) ≤ 8) (v77 : Int → Int) (hv77 : v77 = zfR (k69 : Int) k77 v69) (hx77 : (k77 : Int) = 8) (H : Heap) (locs : List Loc) (ls : Array Slot) (Wd : zW g (zA (0, 398, zX) ad s.heap.size) s.heap (0, 398, zX) ad (zrow zM0 (b + 3) v77) zF0 H locs) (hl : lv_has ls 3 [(0, .ref (ad (b + 1))), (1, .int (zI (k69 : Int))), (2, .int (zI (k77 : Int)))]), W p l e (zrm 1 0 0) s m args below meth c H locs 0 0 (zMQ below g (0, 398, zX) ad (zPv (fun M' F' => (∃ w : Int → Int, (∀ x y, zc8 x → zc8 y → w (8 * x + y) = zBF V x y) ∧ (zrow zM0 (b + 3) w) = M' ∧ zF0 = F'))) args s 0 0) (F0 m 95 ls []) := by
              intro k77 hk77 v77 hv77 hx77 H locs ls Wd hl
              replace hl : lv_has ls 3 [(0, .ref (ad (b + 1))), (1, .int (zI (k69 : Int)))] := lv_sub hl [0, 1] rfl
              obtain rfl : k77 = 8 := by omega
              refine z_iinc C0 hl 1 (t := (k69 : Int)) (u := ((k69 : Int) + 1)) rfl (by omega) [(1, .int (zI ((k69 : Int) + 1))), (0, .ref (ad (b + 1)))] (by decide) rfl dX2_improveAllPairs_95 (fun ls hl => ?_)
              refine z_goto C0 (tgt := 69) dX2_improveAllPairs_98 (by decide) ?_
              exact ih69 (k69 + 1) (by omega) v77 (by rw [zfA_s, ← hv69]; assumption) _ _ _ Wd (lv_sub hl [1, 0] rfl)
            have lp77 : ∀ (d77 k77 : Nat) (hk77 : (k77 : Int) + d77 = 8) (v77 : Int → Int) (hv77 : v77 = zfR (k69 : Int) k77 v69) (H : Heap) (locs : List Loc) (ls : Array Slot) (Wd : zW g (zA (0, 398, zX) ad s.heap.size) s.heap (0, 398, zX) ad (zrow zM0 (b + 3) v77) zF0 H locs) (hl : lv_has ls 3 [(0, .ref (ad (b + 1))), (1, .int (zI (k69 : Int))), (2, .int (zI (k77 : Int)))]), W p l e (zrm 1 0 0) s m args below meth c H locs 0 0 (zMQ below g (0, 398, zX) ad (zPv (fun M' F' => (∃ w : Int → Int, (∀ x y, zc8 x → zc8 y → w (8 * x + y) = zBF V x y) ∧ (zrow zM0 (b + 3) w) = M' ∧ zF0 = F'))) args s 0 0) (F0 m 77 ls []) := by
              intro d77
              induction d77 with
              | zero =>
                intro k77 hk77 v77 hv77 H locs ls Wd hl
                have hb77 := zfR_bd (t := (k69 : Int)) ⟨by omega, by omega⟩ hb69 k77 (by omega)
                rw [← hv77] at hb77
                refine z_iload_n C0 hl 2 rfl dX2_improveAllPairs_77 ?_
                refine z_bipush C0 dX2_improveAllPairs_78 (by decide) ?_
                refine z_icmp_ge C0 (tgt := 95) (zR_mk (by omega) (by omega)) (zR_mk (by decide) (by decide)) dX2_improveAllPairs_80 (by decide) (fun c3 => ?_) (fun c3 => ?_)
                · skip
                  first | exact aft77 k77 (by omega) v77 hv77 (by first | assumption | omega) _ _ _ Wd (lv_sub hl [0, 1, 2] rfl) | (exfalso; omega)
                · skip
                  exfalso; omega
              | succ d77 ih77 =>
                intro k77 hk77 v77 hv77 H locs ls Wd hl
                have hb77 := zfR_bd (t := (k69 : Int)) ⟨by omega, by omega⟩ hb69 k77 (by omega)
                rw [← hv77] at hb77
                refine z_iload_n C0 hl 2 rfl dX2_improveAllPairs_77 ?_
                refine z_bipush C0 dX2_improveAllPairs_78 (by decide) ?_
                refine z_icmp_ge C0 (tgt := 95) (zR_mk (by omega) (by omega)) (zR_mk (by decide) (by decide)) dX2_improveAllPairs_80 (by decide) (fun c4 => ?_) (fun c4 => ?_)
                · skip
                  first | exact aft77 k77 (by omega) v77 hv77 (by first | assumption | omega) _ _ _ Wd (lv_sub hl [0, 1, 2] rfl) | (exfalso; omega)
                · skip
                  refine z_aload_n C0 hl 0 rfl dX2_improveAllPairs_83 ?_
                  refine z_iload_n C0 hl 2 rfl dX2_improveAllPairs_84 ?_
                  refine z_iload_n C0 hl 1 rfl dX2_improveAllPairs_85 ?_
                  refine z_invVv (As := [.int (zI (k77 : Int)), .int (zI (k69 : Int))]) (rest := []) C0 Wd (ct_X2_improveFrom l g zX ad (zrow zM0 (b + 3) v77) zF0 b hb v77 (k77 : Int) (zR_mk (by omega) (by omega)) (k69 : Int) (zR_mk (by omega) (by omega)) (zrow_same _ _ _) ⟨by omega, by omega⟩ ⟨by omega, by omega⟩ hb77) kv_X2_improveFrom (znB1 hb) (zE_1 (zkB1 hb)) rfl zk_89 rfl hl.1 rfl (Nat.le_of_ble_eq_true rfl) (by decide) (by decide) dX2_improveAllPairs_86 (fun zMr5 zFr5 H locs hp Wd => ?_)
                  obtain ⟨rfl, rfl⟩ := hp
                  refine z_iinc C0 hl 2 (t := (k77 : Int)) (u := ((k77 : Int) + 1)) rfl (by omega) [(2, .int (zI ((k77 : Int) + 1))), (0, .ref (ad (b + 1))), (1, .int (zI (k69 : Int)))] (by decide) rfl dX2_improveAllPairs_89 (fun ls hl => ?_)
                  refine z_goto C0 (tgt := 77) dX2_improveAllPairs_92 (by decide) ?_
                  exact ih77 (k77 + 1) (by omega) (zfF (k77 : Int) (k69 : Int) (v77 (8 * (k77 : Int) + (k69 : Int))) 8 v77) (by rw [zfR_s, ← hv77]) _ _ _ (Wd.mem (zrow_twice _ _ _ _)) (lv_sub hl [1, 2, 0] rfl)
            exact lp77 8 0 (by omega) v69 rfl _ _ _ Wd (lv_sub hl [1, 2, 0] rfl)
      exact lp69 8 0 (by omega) v43 rfl _ _ _ Wd (lv_sub hl [1, 0] rfl)
    have lp43 : ∀ (d43 k43 : Nat) (hk43 : (k43 : Int) + d43 = 8) (v43 : Int → Int) (hv43 : ∀ i j, zc8 i → zc8 j → v43 (8 * i + j) = if i = j ∧ i < (k43 : Int) then 0 else (if V (8 + (8 * i + j)) = 0 then 1000 else V (8 + (8 * i + j)))) (H : Heap) (locs : List Loc) (ls : Array Slot) (Wd : zW g (zA (0, 398, zX) ad s.heap.size) s.heap (0, 398, zX) ad (zrow zM0 (b + 3) v43) zF0 H locs) (hl : lv_has ls 3 [(0, .ref (ad (b + 1))), (1, .int (zI (k43 : Int)))]), W p l e (zrm 1 0 0) s m args below meth c H locs 0 0 (zMQ below g (0, 398, zX) ad (zPv (fun M' F' => (∃ w : Int → Int, (∀ x y, zc8 x → zc8 y → w (8 * x + y) = zBF V x y) ∧ (zrow zM0 (b + 3) w) = M' ∧ zF0 = F'))) args s 0 0) (F0 m 43 ls []) := by
      intro d43
      induction d43 with
      | zero =>
        intro k43 hk43 v43 hv43 H locs ls Wd hl
        refine z_iload_n C0 hl 1 rfl dX2_improveAllPairs_43 ?_
        refine z_bipush C0 dX2_improveAllPairs_44 (by decide) ?_
        refine z_icmp_ge C0 (tgt := 67) (zR_mk (by omega) (by omega)) (zR_mk (by decide) (by decide)) dX2_improveAllPairs_46 (by decide) (fun c7 => ?_) (fun c7 => ?_)
        · skip
          first | exact aft43 k43 (by omega) v43 hv43 (by first | assumption | omega) _ _ _ Wd (lv_sub hl [0, 1] rfl) | (exfalso; omega)
        · skip
          exfalso; omega
      | succ d43 ih43 =>
        intro k43 hk43 v43 hv43 H locs ls Wd hl
        refine z_iload_n C0 hl 1 rfl dX2_improveAllPairs_43 ?_
        refine z_bipush C0 dX2_improveAllPairs_44 (by decide) ?_
        refine z_icmp_ge C0 (tgt := 67) (zR_mk (by omega) (by omega)) (zR_mk (by decide) (by decide)) dX2_improveAllPairs_46 (by decide) (fun c8 => ?_) (fun c8 => ?_)
        · skip
          first | exact aft43 k43 (by omega) v43 hv43 (by first | assumption | omega) _ _ _ Wd (lv_sub hl [0, 1] rfl) | (exfalso; omega)
        · skip
          refine z_aload_n C0 hl 0 rfl dX2_improveAllPairs_49 ?_
          refine zg_1_3 C0 Wd (znB1 hb) (zkB1 hb) zk_99 dX2_improveAllPairs_50 ?_
          refine z_rf (show ((b + 1) + 2) = (b + 3) by omega) ?_
          refine z_iload_n C0 hl 1 rfl dX2_improveAllPairs_53 ?_
          refine z_bipush C0 dX2_improveAllPairs_54 (by decide) ?_
          refine z_imul C0 dX2_improveAllPairs_56 ?_
          refine z_iload_n C0 hl 1 rfl dX2_improveAllPairs_57 ?_
          refine z_iadd C0 dX2_improveAllPairs_58 ?_
          refine z_iconst C0 dX2_improveAllPairs_59 ?_
          refine z_iast C0 Wd (znB3 hb) (zkB3 hb) (zlB3 hb) (by omega) (by omega) (by decide) (zR_mk (by decide) (by decide)) dX2_improveAllPairs_60 (fun H locs Wd => ?_)
          refine z_iinc C0 hl 1 (t := (k43 : Int)) (u := ((k43 : Int) + 1)) rfl (by omega) [(1, .int (zI ((k43 : Int) + 1))), (0, .ref (ad (b + 1)))] (by decide) rfl dX2_improveAllPairs_61 (fun ls hl => ?_)
          refine z_goto C0 (tgt := 43) dX2_improveAllPairs_64 (by decide) ?_
          exact ih43 (k43 + 1) (by omega) (zup v43 (((k43 : Int) * 8) + (k43 : Int)) 0) (fun i j hi hj => by have := hi.1; have := hi.2; have := hj.1; have := hj.2; by_cases e : 8 * i + j = (k43 : Int) * 8 + (k43 : Int) <;> first | (rw [zup_at e, if_pos (by omega)]; done) | (rw [zup_ne e, hv43 i j hi hj]; by_cases e2 : i = j ∧ i < (k43 : Int) <;> first | (rw [if_pos e2, if_pos (by omega)]; done) | (rw [if_neg e2, if_neg (show ¬ (i = j ∧ i < ((k43 + 1 : Nat) : Int)) by omega)]; done))) _ _ _ (by rw [← zu_zrow]; exact Wd) (lv_sub hl [1, 0] rfl)
    exact lp43 8 0 (by omega) v2 (fun i j hi hj => by have := hi.1; have := hi.2; have := hj.1; have := hj.2; rw [if_neg (by omega)]; exact hv64 (8 * i + j) (by omega) (by omega)) _ _ _ Wd (lv_sub hl [1, 0] rfl)
  have lp2 : ∀ (d2 k2 : Nat) (hk2 : (k2 : Int) + d2 = 64) (v2 : Int → Int) (hv2 : ∀ i, 0 ≤ i → i < (k2 : Int) → v2 i = if V (8 + i) = 0 then 1000 else V (8 + i)) (H : Heap) (locs : List Loc) (ls : Array Slot) (Wd : zW g (zA (0, 398, zX) ad s.heap.size) s.heap (0, 398, zX) ad (zrow zM0 (b + 3) v2) zF0 H locs) (hl : lv_has ls 3 [(0, .ref (ad (b + 1))), (1, .int (zI (k2 : Int)))]), W p l e (zrm 1 0 0) s m args below meth c H locs 0 0 (zMQ below g (0, 398, zX) ad (zPv (fun M' F' => (∃ w : Int → Int, (∀ x y, zc8 x → zc8 y → w (8 * x + y) = zBF V x y) ∧ (zrow zM0 (b + 3) w) = M' ∧ zF0 = F'))) args s 0 0) (F0 m 2 ls []) := by
    intro d2
    induction d2 with
    | zero =>
      intro k2 hk2 v2 hv2 H locs ls Wd hl
      refine z_iload_n C0 hl 1 rfl dX2_improveAllPairs_2 ?_
      refine z_bipush C0 dX2_improveAllPairs_3 (by decide) ?_
      refine z_icmp_ge C0 (tgt := 41) (zR_mk (by omega) (by omega)) (zR_mk (by decide) (by decide)) dX2_improveAllPairs_5 (by decide) (fun c9 => ?_) (fun c9 => ?_)
      · skip
        first | exact aft2 k2 (by omega) v2 hv2 (by first | assumption | omega) _ _ _ Wd (lv_sub hl [0, 1] rfl) | (exfalso; omega)
      · skip
        exfalso; omega
    | succ d2 ih2 =>
      intro k2 hk2 v2 hv2 H locs ls Wd hl
      refine z_iload_n C0 hl 1 rfl dX2_improveAllPairs_2 ?_
      refine z_bipush C0 dX2_improveAllPairs_3 (by decide) ?_
      refine z_icmp_ge C0 (tgt := 41) (zR_mk (by omega) (by omega)) (zR_mk (by decide) (by decide)) dX2_improveAllPairs_5 (by decide) (fun c10 => ?_) (fun c10 => ?_)
      · skip
        first | exact aft2 k2 (by omega) v2 hv2 (by first | assumption | omega) _ _ _ Wd (lv_sub hl [0, 1] rfl) | (exfalso; omega)
      · skip
        refine z_aload_n C0 hl 0 rfl dX2_improveAllPairs_8 ?_
        refine zg_1_3 C0 Wd (znB1 hb) (zkB1 hb) zk_99 dX2_improveAllPairs_9 ?_
        refine z_rf (show ((b + 1) + 2) = (b + 3) by omega) ?_
        refine z_iload_n C0 hl 1 rfl dX2_improveAllPairs_12 ?_
        refine z_aload_n C0 hl 0 rfl dX2_improveAllPairs_13 ?_
        refine zg_1_2 C0 Wd (znB1 hb) (zkB1 hb) zk_98 dX2_improveAllPairs_14 ?_
        refine z_rf (show ((b + 1) + 1) = (b + 2) by omega) ?_
        refine z_iload_n C0 hl 1 rfl dX2_improveAllPairs_17 ?_
        refine z_iald C0 Wd (znB2 hb) (zkB2 hb) (zlB2 hb) (by omega) (by omega) (by decide) dX2_improveAllPairs_18 ?_
        obtain ⟨he12, hz11⟩ : ((zrow zM0 (b + 3) v2) (b + 2) (k2 : Int)) = (V (8 + (k2 : Int))) ∧ zR (V (8 + (k2 : Int))) := (fun q => ⟨q, q ▸ Wd.rm _ _⟩) ((congrFun (zrow_ne (by omega)) _).trans (ht (k2 : Int) (by omega) (by omega)))
        refine z_top (congrArg zI he12) ?_
        clear he12
        have hq0 := ht (k2 : Int) (by omega) (by omega)
        have hq1 := hT (8 + (k2 : Int)) (by omega) (by omega)
        refine z_if_ne C0 (tgt := 28) hz11 dX2_improveAllPairs_19 (by decide) (fun c13 => ?_) (fun c13 => ?_)
        · skip
          refine z_aload_n C0 hl 0 rfl dX2_improveAllPairs_28 ?_
          refine zg_1_2 C0 Wd (znB1 hb) (zkB1 hb) zk_98 dX2_improveAllPairs_29 ?_
          refine z_rf (show ((b + 1) + 1) = (b + 2) by omega) ?_
          refine z_iload_n C0 hl 1 rfl dX2_improveAllPairs_32 ?_
          refine z_iald C0 Wd (znB2 hb) (zkB2 hb) (zlB2 hb) (by omega) (by omega) (by decide) dX2_improveAllPairs_33 ?_
          obtain ⟨he15, hz14⟩ : ((zrow zM0 (b + 3) v2) (b + 2) (k2 : Int)) = (V (8 + (k2 : Int))) ∧ zR (V (8 + (k2 : Int))) := (fun q => ⟨q, q ▸ Wd.rm _ _⟩) ((congrFun (zrow_ne (by omega)) _).trans (ht (k2 : Int) (by omega) (by omega)))
          refine z_top (congrArg zI he15) ?_
          clear he15
          refine z_iast C0 Wd (znB3 hb) (zkB3 hb) (zlB3 hb) (by omega) (by omega) (by decide) hz14 dX2_improveAllPairs_34 (fun H locs Wd => ?_)
          refine z_iinc C0 hl 1 (t := (k2 : Int)) (u := ((k2 : Int) + 1)) rfl (by omega) [(1, .int (zI ((k2 : Int) + 1))), (0, .ref (ad (b + 1)))] (by decide) rfl dX2_improveAllPairs_35 (fun ls hl => ?_)
          refine z_goto C0 (tgt := 2) dX2_improveAllPairs_38 (by decide) ?_
          exact ih2 (k2 + 1) (by omega) (zup v2 (k2 : Int) (V (8 + (k2 : Int)))) (fun i h0 h1 => by by_cases e : i = (k2 : Int) <;> first | (rw [e, zup_same]; first | (rw [if_pos (by assumption)]; done) | (rw [if_neg (by assumption)]; done)) | (rw [zup_ne e]; exact hv2 i h0 (by omega))) _ _ _ (by rw [← zu_zrow]; exact Wd) (lv_sub hl [1, 0] rfl)
        · skip
          refine z_sipush C0 dX2_improveAllPairs_22 (by decide) ?_
          refine z_goto C0 (tgt := 34) dX2_improveAllPairs_25 (by decide) ?_
          refine z_iast C0 Wd (znB3 hb) (zkB3 hb) (zlB3 hb) (by omega) (by omega) (by decide) (zR_mk (by decide) (by decide)) dX2_improveAllPairs_34 (fun H locs Wd => ?_)
          refine z_iinc C0 hl 1 (t := (k2 : Int)) (u := ((k2 : Int) + 1)) rfl (by omega) [(1, .int (zI ((k2 : Int) + 1))), (0, .ref (ad (b + 1)))] (by decide) rfl dX2_improveAllPairs_35 (fun ls hl => ?_)
          refine z_goto C0 (tgt := 2) dX2_improveAllPairs_38 (by decide) ?_
          exact ih2 (k2 + 1) (by omega) (zup v2 (k2 : Int) 1000) (fun i h0 h1 => by by_cases e : i = (k2 : Int) <;> first | (rw [e, zup_same]; first | (rw [if_pos (by assumption)]; done) | (rw [if_neg (by assumption)]; done)) | (rw [zup_ne e]; exact hv2 i h0 (by omega))) _ _ _ (by rw [← zu_zrow]; exact Wd) (lv_sub hl [1, 0] rfl)
  exact lp2 64 0 (by omega) (zM0 (b + 3)) (fun i h0 h1 => by omega) _ _ _ (by rw [zrow_eta]; exact Wd) (lv_sub hl [1, 0] rfl)
