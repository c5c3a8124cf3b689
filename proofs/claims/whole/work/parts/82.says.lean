/-! the model says a code -/
/-- a code's five beats are said -/
def zsC (x : Int) (k : Nat) (M : zMem) : zMem := zfold (fun j W => zsay (if zbt x j = 1 then 120 else 46) W) k (zu M 398 10 0)
theorem zsC_n {x : Int} {M : zMem} (k : Nat) : zsC x k M 398 10 = (k : Int) := by
  induction k with
  | zero =>
    show zu M 398 10 0 398 10 = _
    rw [zu_same]
    rfl
  | succ k ih =>
    show zsay (if zbt x (k : Int) = 1 then 120 else 46) (zsC x k M) 398 10 = _
    rw [zsay_n, ih]
    omega

theorem kv_X12_writeCode : zKV yX12_writeCode cX12_writeCode 3 (some .int) "DrumWarrenModel" 1 := ⟨zk_1999, zk_1997, zk_1998, zk_80, by decide, by decide, by decide +kernel⟩
set_option maxHeartbeats 4000000 in
set_option maxRecDepth 100000 in
theorem ct_X12_writeCode (l : Launch) (g : zG) (ad : Int → Nat) (zM0 zF0 : zMem) (x0 : Int) (hx0 : zR x0) : zMt l yX12_writeCode cX12_writeCode 3 (some .int) 3 0 0 g 410 ad [.ref (ad 398), .int (zI x0)] zM0 zF0 (zPi (fun r M' F' => ((¬ (0 ≤ x0 ∧ x0 ≤ 15)) ∧ 0 = r ∧ (zu zM0 398 8 (zb (¬ (0 ≤ x0 ∧ x0 ≤ 15)))) = M' ∧ zF0 = F') ∨ (((0 ≤ x0 ∧ x0 ≤ 15)) ∧ 5 = r ∧ (zsC x0 5 (zu zM0 398 8 (zb (¬ (0 ≤ x0 ∧ x0 ≤ 15))))) = M' ∧ zF0 = F'))) := by
  refine zMt.of "DrumWarrenModel" rfl (by decide +kernel) (Nat.le_of_ble_eq_true rfl) (fun {p e s m args below meth c ls} C0 Wd hl hret hlk hin => ?_)
  have hl : lv_has ls 3 [(0, .ref (ad 398)), (1, .int (zI x0))] := hl
  refine z_aload_n C0 hl 0 rfl dX12_writeCode_0 ?_
  refine z_iload_n C0 hl 1 rfl dX12_writeCode_1 ?_
  refine z_iconst C0 dX12_writeCode_2 ?_
  refine z_bipush C0 dX12_writeCode_3 (by decide) ?_
  refine z_invSi (As := [.int (zI x0), .int (zI 0), .int (zI 15)]) (rest := [.ref (ad 398)]) C0 Wd (ct_X12_in l g ad zM0 zF0 x0 hx0 0 (zR_mk (by decide) (by decide)) 15 (zR_mk (by decide) (by decide))) kv_X12_in zk_1707 rfl hl.1 rfl (Nat.le_of_ble_eq_true rfl) (by decide) (by decide) dX12_writeCode_5 (fun r1 zMr1 zFr1 H locs hrr1 hp Wd => ?_)
  obtain ⟨rfl, rfl, rfl⟩ := hp
  refine z_invVi (As := [.int (zI (zb (0 ≤ x0 ∧ x0 ≤ 15)))]) (rest := []) C0 Wd (ct_X12_isThere l g ad zM0 zF0 (0 ≤ x0 ∧ x0 ≤ 15)) kv_X12_isThere zN398 (zE_9 zK398) rfl zk_1754 rfl hl.1 rfl (Nat.le_of_ble_eq_true rfl) (by decide) (by decide) dX12_writeCode_8 (fun r3 zMr3 zFr3 H locs hrr3 hp Wd => ?_)
  obtain ⟨rfl, rfl, rfl⟩ := hp
  refine z_if_ne_b C0 (tgt := 16) dX12_writeCode_11 (by decide) (fun c5 => ?_) (fun c5 => ?_)
  · skip
    refine z_aload_n C0 hl 0 rfl dX12_writeCode_16 ?_
    refine z_iconst C0 dX12_writeCode_17 ?_
    refine zp_9_10 C0 Wd zN398 zK398 (zR_mk (by decide) (by decide)) zk_1622 dX12_writeCode_18 (fun H locs Wd => ?_)
    refine z_iconst C0 dX12_writeCode_21 ?_
    refine z_istore_n C0 hl [(2, .int (zI 0)), (0, .ref (ad 398)), (1, .int (zI x0))] (by decide) rfl dX12_writeCode_22 (fun ls hl => ?_)
    have aft23 : ∀ (k23 : Nat) (hk23 : (k23 : Int) ≤ 5) (M2 : zMem) (hw : M2 = zsC x0 k23 (zu zM0 398 8 (zb (¬ (0 ≤ x0 ∧ x0 ≤ 15))))) (hx23 : (k23 : Int) = 5) (H : Heap) (locs : List Loc) (ls : Array Slot) (Wd : zW g (zA 410 ad s.heap.size) s.heap 410 ad M2 zF0 H locs) (hl : lv_has ls 3 [(0, .ref (ad 398)), (1, .int (zI x0)), (2, .int (zI (k23 : Int)))]), W p l e (zrm 3 0 0) s m args below meth c H locs 0 0 (zMQ below g 410 ad (zPi (fun r M' F' => ((¬ (0 ≤ x0 ∧ x0 ≤ 15)) ∧ 0 = r ∧ (zu zM0 398 8 (zb (¬ (0 ≤ x0 ∧ x0 ≤ 15)))) = M' ∧ zF0 = F') ∨ (((0 ≤ x0 ∧ x0 ≤ 15)) ∧ 5 = r ∧ (zsC x0 5 (zu zM0 398 8 (zb (¬ (0 ≤ x0 ∧ x0 ≤ 15))))) = M' ∧ zF0 = F'))) args s 0 0) (F0 m 54 ls []) := by
      intro k23 hk23 M2 hw hx23 H locs ls Wd hl
      replace hl : lv_has ls 3 [(0, .ref (ad 398)), (1, .int (zI x0))] := lv_sub hl [0, 1] rfl
      have hn9 : M2 398 10 = (k23 : Int) := by rw [hw]; exact zsC_n k23
      refine z_aload_n C0 hl 0 rfl dX12_writeCode_54 ?_
      refine zg_9_10 C0 Wd zN398 zK398 zk_1622 dX12_writeCode_55 ?_
      obtain ⟨he7, hz6⟩ : (M2 398 10) = 5 ∧ zR 5 := (fun q => ⟨q, q ▸ Wd.rm _ _⟩) (by omega)
      refine z_top (congrArg zI he7) ?_
      clear he7
      exact z_iret C0 Wd hret hlk hz6 (Or.inr ⟨by first | assumption | omega, rfl, (by rw [hw, show k23 = 5 by omega]), rfl⟩) dX12_writeCode_58
    have lp23 : ∀ (d23 k23 : Nat) (hk23 : (k23 : Int) + d23 = 5) (M2 : zMem) (hw : M2 = zsC x0 k23 (zu zM0 398 8 (zb (¬ (0 ≤ x0 ∧ x0 ≤ 15))))) (H : Heap) (locs : List Loc) (ls : Array Slot) (Wd : zW g (zA 410 ad s.heap.size) s.heap 410 ad M2 zF0 H locs) (hl : lv_has ls 3 [(0, .ref (ad 398)), (1, .int (zI x0)), (2, .int (zI (k23 : Int)))]), W p l e (zrm 3 0 0) s m args below meth c H locs 0 0 (zMQ below g 410 ad (zPi (fun r M' F' => ((¬ (0 ≤ x0 ∧ x0 ≤ 15)) ∧ 0 = r ∧ (zu zM0 398 8 (zb (¬ (0 ≤ x0 ∧ x0 ≤ 15)))) = M' ∧ zF0 = F') ∨ (((0 ≤ x0 ∧ x0 ≤ 15)) ∧ 5 = r ∧ (zsC x0 5 (zu zM0 398 8 (zb (¬ (0 ≤ x0 ∧ x0 ≤ 15))))) = M' ∧ zF0 = F'))) args s 0 0) (F0 m 23 ls []) := by
      intro d23
      induction d23 with
      | zero =>
        intro k23 hk23 M2 hw H locs ls Wd hl
        have hn9 : M2 398 10 = (k23 : Int) := by rw [hw]; exact zsC_n k23
        refine z_iload_n C0 hl 2 rfl dX12_writeCode_23 ?_
        refine z_iconst C0 dX12_writeCode_24 ?_
        refine z_icmp_ge C0 (tgt := 54) (zR_mk (by omega) (by omega)) (zR_mk (by decide) (by decide)) dX12_writeCode_25 (by decide) (fun c8 => ?_) (fun c8 => ?_)
        · skip
          first | exact aft23 k23 (by omega) M2 hw (by first | assumption | omega) _ _ _ Wd (lv_sub hl [0, 1, 2] rfl) | (exfalso; omega)
        · skip
          exfalso; omega
      | succ d23 ih23 =>
        intro k23 hk23 M2 hw H locs ls Wd hl
        have hn9 : M2 398 10 = (k23 : Int) := by rw [hw]; exact zsC_n k23
        refine z_iload_n C0 hl 2 rfl dX12_writeCode_23 ?_
        refine z_iconst C0 dX12_writeCode_24 ?_
        refine z_icmp_ge C0 (tgt := 54) (zR_mk (by omega) (by omega)) (zR_mk (by decide) (by decide)) dX12_writeCode_25 (by decide) (fun c9 => ?_) (fun c9 => ?_)
        · skip
          first | exact aft23 k23 (by omega) M2 hw (by first | assumption | omega) _ _ _ Wd (lv_sub hl [0, 1, 2] rfl) | (exfalso; omega)
        · skip
          refine z_aload_n C0 hl 0 rfl dX12_writeCode_28 ?_
          refine z_iload_n C0 hl 1 rfl dX12_writeCode_29 ?_
          refine z_iload_n C0 hl 2 rfl dX12_writeCode_30 ?_
          refine z_invSi (As := [.int (zI x0), .int (zI (k23 : Int))]) (rest := [.ref (ad 398)]) C0 Wd (ct_X12_beat l g ad M2 zF0 x0 hx0 (k23 : Int) (zR_mk (by omega) (by omega)) (by omega) (by omega)) kv_X12_beat zk_1905 rfl hl.1 rfl (Nat.le_of_ble_eq_true rfl) (by decide) (by decide) dX12_writeCode_31 (fun r10 zMr10 zFr10 H locs hrr10 hp Wd => ?_)
          obtain ⟨rfl, rfl, rfl⟩ := hp
          refine z_iconst C0 dX12_writeCode_34 ?_
          refine z_icmp_ne C0 (tgt := 43) hrr10 (zR_mk (by decide) (by decide)) dX12_writeCode_35 (by decide) (fun c12 => ?_) (fun c12 => ?_)
          · skip
            refine z_bipush C0 dX12_writeCode_43 (by decide) ?_
            refine z_invVv (As := [.int (zI 46)]) (rest := []) C0 Wd (ct_X12_says_s l g ad M2 zF0 46 (zR_mk (by decide) (by decide)) (by omega) (by omega)) kv_X12_says zN398 (zE_9 zK398) rfl zk_1992 rfl hl.1 rfl (Nat.le_of_ble_eq_true rfl) (by decide) (by decide) dX12_writeCode_45 (fun zMr13 zFr13 H locs hp Wd => ?_)
            obtain ⟨rfl, rfl⟩ := hp
            refine z_iinc C0 hl 2 (t := (k23 : Int)) (u := ((k23 : Int) + 1)) rfl (by omega) [(2, .int (zI ((k23 : Int) + 1))), (0, .ref (ad 398)), (1, .int (zI x0))] (by decide) rfl dX12_writeCode_48 (fun ls hl => ?_)
            refine z_goto C0 (tgt := 23) dX12_writeCode_51 (by decide) ?_
            exact ih23 (k23 + 1) (by omega) (zsay 46 M2) (by rw [hw]; show _ = zsay (if zbt x0 (k23 : Int) = 1 then 120 else 46) (zsC x0 k23 _); rw [if_neg (by first | assumption | omega)]) _ _ _ Wd (lv_sub hl [1, 2, 0] rfl)
          · skip
            refine z_bipush C0 dX12_writeCode_38 (by decide) ?_
            refine z_goto C0 (tgt := 45) dX12_writeCode_40 (by decide) ?_
            refine z_invVv (As := [.int (zI 120)]) (rest := []) C0 Wd (ct_X12_says_s l g ad M2 zF0 120 (zR_mk (by decide) (by decide)) (by omega) (by omega)) kv_X12_says zN398 (zE_9 zK398) rfl zk_1992 rfl hl.1 rfl (Nat.le_of_ble_eq_true rfl) (by decide) (by decide) dX12_writeCode_45 (fun zMr15 zFr15 H locs hp Wd => ?_)
            obtain ⟨rfl, rfl⟩ := hp
            refine z_iinc C0 hl 2 (t := (k23 : Int)) (u := ((k23 : Int) + 1)) rfl (by omega) [(2, .int (zI ((k23 : Int) + 1))), (0, .ref (ad 398)), (1, .int (zI x0))] (by decide) rfl dX12_writeCode_48 (fun ls hl => ?_)
            refine z_goto C0 (tgt := 23) dX12_writeCode_51 (by decide) ?_
            exact ih23 (k23 + 1) (by omega) (zsay 120 M2) (by rw [hw]; show _ = zsay (if zbt x0 (k23 : Int) = 1 then 120 else 46) (zsC x0 k23 _); rw [if_pos (by first | assumption | omega)]) _ _ _ Wd (lv_sub hl [1, 2, 0] rfl)
    exact lp23 5 0 (by omega) (zu (zu zM0 398 8 (zb (¬ (0 ≤ x0 ∧ x0 ≤ 15)))) 398 10 0) rfl _ _ _ Wd (lv_sub hl [1, 2, 0] rfl)
  · skip
    refine z_iconst C0 dX12_writeCode_14 ?_
    exact z_iret C0 Wd hret hlk (zR_mk (by decide) (by decide)) (Or.inl ⟨by first | assumption | omega, rfl, rfl, rfl⟩) dX12_writeCode_15
