/-! the model: its loops -/
theorem kv_X12_placeOf : zKV yX12_placeOf cX12_placeOf 4 (some .int) "DrumWarrenModel" 1 := ⟨zk_1868, zk_1867, zk_45, zk_80, by decide, by decide, by decide +kernel⟩
set_option maxHeartbeats 4000000 in
set_option maxRecDepth 100000 in
theorem ct_X12_placeOf (l : Launch) (g : zG) (ad : Int → Nat) (zM0 zF0 : zMem) (x0 : Int) (hx0 : zR x0) (h0 : 0 ≤ zM0 399 2 ∧ zM0 399 2 ≤ 8) : zMt l yX12_placeOf cX12_placeOf 4 (some .int) 1 0 0 g 410 ad [.ref (ad 398), .int (zI x0)] zM0 zF0 (zPi (fun r M' F' => zlast (fun q => zM0 399 (96 + 47 * q + 0) = x0) (zM0 399 2).toNat = r ∧ zM0 = M' ∧ zF0 = F')) := by
  refine zMt.of "DrumWarrenModel" rfl (by decide) (Nat.le_of_ble_eq_true rfl) (fun {p e s m args below meth c ls} C0 Wd hl hret hlk hin => ?_)
  have hl : lv_has ls 4 [(0, .ref (ad 398)), (1, .int (zI x0))] := hl
  refine z_iconst C0 dX12_placeOf_0 ?_
  refine z_istore_n C0 hl [(2, .int (zI (-1))), (0, .ref (ad 398)), (1, .int (zI x0))] (by decide) rfl dX12_placeOf_1 (fun ls hl => ?_)
  refine z_iconst C0 dX12_placeOf_2 ?_
  refine z_istore_n C0 hl [(3, .int (zI 0)), (2, .int (zI (-1))), (0, .ref (ad 398)), (1, .int (zI x0))] (by decide) rfl dX12_placeOf_3 (fun ls hl => ?_)
  have aft4 : ∀ (k4 : Nat) (hk4 : (k4 : Int) ≤ (zM0 399 2)) (v2 : Int) (hv : v2 = zlast (fun q => zM0 399 (96 + 47 * q + 0) = x0) k4) (hw : -1 ≤ v2 ∧ v2 < 8) (hx4 : (k4 : Int) = (zM0 399 2)) (H : Heap) (locs : List Loc) (ls : Array Slot) (Wd : zW g (zA 410 ad s.heap.size) s.heap 410 ad zM0 zF0 H locs) (hl : lv_has ls 4 [(0, .ref (ad 398)), (1, .int (zI x0)), (2, .int (zI v2)), (3, .int (zI (k4 : Int)))]), W p l e (zrm 1 0 0) s m args below meth c H locs 0 0 (zMQ below g 410 ad (zPi (fun r M' F' => zlast (fun q => zM0 399 (96 + 47 * q + 0) = x0) (zM0 399 2).toNat = r ∧ zM0 = M' ∧ zF0 = F')) args s 0 0) (F0 m 36 ls []) := by
    intro k4 hk4 v2 hv hw hx4 H locs ls Wd hl
    replace hl : lv_has ls 4 [(0, .ref (ad 398)), (1, .int (zI x0)), (2, .int (zI v2))] := lv_sub hl [0, 1, 2] rfl
    have e4 : (zM0 399 2).toNat = k4 := by omega
    refine z_iload_n C0 hl 2 rfl dX12_placeOf_36 ?_
    exact z_iret C0 Wd hret hlk (zR_mk (by omega) (by omega)) ⟨by rw [e4, hv], rfl, rfl⟩ dX12_placeOf_37
  have lp4 : ∀ (d4 k4 : Nat) (hk4 : (k4 : Int) + d4 = (zM0 399 2)) (v2 : Int) (hv : v2 = zlast (fun q => zM0 399 (96 + 47 * q + 0) = x0) k4) (hw : -1 ≤ v2 ∧ v2 < 8) (H : Heap) (locs : List Loc) (ls : Array Slot) (Wd : zW g (zA 410 ad s.heap.size) s.heap 410 ad zM0 zF0 H locs) (hl : lv_has ls 4 [(0, .ref (ad 398)), (1, .int (zI x0)), (2, .int (zI v2)), (3, .int (zI (k4 : Int)))]), W p l e (zrm 1 0 0) s m args below meth c H locs 0 0 (zMQ below g 410 ad (zPi (fun r M' F' => zlast (fun q => zM0 399 (96 + 47 * q + 0) = x0) (zM0 399 2).toNat = r ∧ zM0 = M' ∧ zF0 = F')) args s 0 0) (F0 m 4 ls []) := by
    intro d4
    induction d4 with
    | zero =>
      intro k4 hk4 v2 hv hw H locs ls Wd hl
      refine z_iload_n C0 hl 3 rfl dX12_placeOf_4 ?_
      refine z_aload_n C0 hl 0 rfl dX12_placeOf_5 ?_
      refine zg_9_0 C0 Wd zN398 zK398 zk_1612 dX12_placeOf_6 ?_
      refine z_iconst C0 dX12_placeOf_9 ?_
      refine z_iald C0 Wd zN399 zK399 zL399 (by decide) (by decide) (by decide) dX12_placeOf_10 ?_
      have hz1 : zR (zM0 399 2) := Wd.rm _ _
      refine z_icmp_ge C0 (tgt := 36) (zR_mk (by omega) (by omega)) hz1 dX12_placeOf_11 (by decide) (fun c2 => ?_) (fun c2 => ?_)
      · skip
        first | exact aft4 k4 (by omega) v2 hv hw (by first | assumption | omega) _ _ _ Wd (lv_sub hl [0, 1, 2, 3] rfl) | (exfalso; omega)
      · skip
        exfalso; omega
    | succ d4 ih4 =>
      intro k4 hk4 v2 hv hw H locs ls Wd hl
      refine z_iload_n C0 hl 3 rfl dX12_placeOf_4 ?_
      refine z_aload_n C0 hl 0 rfl dX12_placeOf_5 ?_
      refine zg_9_0 C0 Wd zN398 zK398 zk_1612 dX12_placeOf_6 ?_
      refine z_iconst C0 dX12_placeOf_9 ?_
      refine z_iald C0 Wd zN399 zK399 zL399 (by decide) (by decide) (by decide) dX12_placeOf_10 ?_
      have hz3 : zR (zM0 399 2) := Wd.rm _ _
      refine z_icmp_ge C0 (tgt := 36) (zR_mk (by omega) (by omega)) hz3 dX12_placeOf_11 (by decide) (fun c4 => ?_) (fun c4 => ?_)
      · skip
        first | exact aft4 k4 (by omega) v2 hv hw (by first | assumption | omega) _ _ _ Wd (lv_sub hl [0, 1, 2, 3] rfl) | (exfalso; omega)
      · skip
        refine z_aload_n C0 hl 0 rfl dX12_placeOf_14 ?_
        refine z_iload_n C0 hl 3 rfl dX12_placeOf_15 ?_
        refine z_iconst C0 dX12_placeOf_16 ?_
        refine z_invVi (As := [.int (zI (k4 : Int)), .int (zI 0)]) (rest := []) C0 Wd (ct_X12_of l g ad zM0 zF0 (k4 : Int) (zR_mk (by omega) (by omega)) 0 (zR_mk (by decide) (by decide)) (by omega)) kv_X12_of zN398 (zE_9 zK398) rfl zk_1801 rfl hl.1 rfl (Nat.le_of_ble_eq_true rfl) (by decide) (by decide) dX12_placeOf_17 (fun r5 zMr5 zFr5 H locs hrr5 hp Wd => ?_)
        obtain ⟨rfl, rfl, rfl⟩ := hp
        refine z_iload_n C0 hl 1 rfl dX12_placeOf_20 ?_
        refine z_icmp_ne C0 (tgt := 28) hrr5 hx0 dX12_placeOf_21 (by decide) (fun c7 => ?_) (fun c7 => ?_)
        · skip
          refine z_iload_n C0 hl 2 rfl dX12_placeOf_28 ?_
          refine z_istore_n C0 hl [(2, .int (zI v2)), (0, .ref (ad 398)), (1, .int (zI x0)), (3, .int (zI (k4 : Int)))] (by decide) rfl dX12_placeOf_29 (fun ls hl => ?_)
          refine z_iinc C0 hl 3 (t := (k4 : Int)) (u := ((k4 : Int) + 1)) rfl (by omega) [(3, .int (zI ((k4 : Int) + 1))), (2, .int (zI v2)), (0, .ref (ad 398)), (1, .int (zI x0))] (by decide) rfl dX12_placeOf_30 (fun ls hl => ?_)
          refine z_goto C0 (tgt := 4) dX12_placeOf_33 (by decide) ?_
          exact ih4 (k4 + 1) (by omega) v2 (by simp only [zlast]; split <;> first | rfl | omega | assumption | (exfalso; omega)) (by omega) _ _ _ Wd (lv_sub hl [2, 3, 1, 0] rfl)
        · skip
          refine z_iload_n C0 hl 3 rfl dX12_placeOf_24 ?_
          refine z_goto C0 (tgt := 29) dX12_placeOf_25 (by decide) ?_
          refine z_istore_n C0 hl [(2, .int (zI (k4 : Int))), (0, .ref (ad 398)), (1, .int (zI x0)), (3, .int (zI (k4 : Int)))] (by decide) rfl dX12_placeOf_29 (fun ls hl => ?_)
          refine z_iinc C0 hl 3 (t := (k4 : Int)) (u := ((k4 : Int) + 1)) rfl (by omega) [(3, .int (zI ((k4 : Int) + 1))), (2, .int (zI (k4 : Int))), (0, .ref (ad 398)), (1, .int (zI x0))] (by decide) rfl dX12_placeOf_30 (fun ls hl => ?_)
          refine z_goto C0 (tgt := 4) dX12_placeOf_33 (by decide) ?_
          exact ih4 (k4 + 1) (by omega) (k4 : Int) (by simp only [zlast]; split <;> first | rfl | omega | assumption | (exfalso; omega)) (by omega) _ _ _ Wd (lv_sub hl [2, 3, 1, 0] rfl)
  exact lp4 ((zM0 399 2)).toNat 0 (by omega) (-1) rfl (by omega) _ _ _ Wd (lv_sub hl [2, 3, 1, 0] rfl)
theorem kv_X12_drums : zKV yX12_drums cX12_drums 4 (some .boolean) "DrumWarrenModel" 1 := ⟨zk_1800, zk_1799, zk_38, zk_80, by decide, by decide, by decide +kernel⟩
set_option maxHeartbeats 4000000 in
set_option maxRecDepth 100000 in
theorem ct_X12_drums (l : Launch) (g : zG) (ad : Int → Nat) (zM0 zF0 : zMem) (x0 : Int) (hx0 : zR x0) (h0 : 0 ≤ zM0 399 2 ∧ zM0 399 2 ≤ 8) : zMt l yX12_drums cX12_drums 4 (some .boolean) 1 0 0 g 410 ad [.ref (ad 398), .int (zI x0)] zM0 zF0 (zPi (fun r M' F' => zb (zany (fun q => zM0 399 (96 + 47 * q + 4) = 100 ∧ zM0 399 (96 + 47 * q + 1) = x0) (zM0 399 2).toNat = true) = r ∧ zM0 = M' ∧ zF0 = F')) := by
  refine zMt.of "DrumWarrenModel" rfl (by decide) (Nat.le_of_ble_eq_true rfl) (fun {p e s m args below meth c ls} C0 Wd hl hret hlk hin => ?_)
  have hl : lv_has ls 4 [(0, .ref (ad 398)), (1, .int (zI x0))] := hl
  refine z_iconst C0 dX12_drums_0 ?_
  refine z_istore_n C0 hl [(2, .int (zI 0)), (0, .ref (ad 398)), (1, .int (zI x0))] (by decide) rfl dX12_drums_1 (fun ls hl => ?_)
  refine z_iconst C0 dX12_drums_2 ?_
  refine z_istore_n C0 hl [(3, .int (zI 0)), (2, .int (zI 0)), (0, .ref (ad 398)), (1, .int (zI x0))] (by decide) rfl dX12_drums_3 (fun ls hl => ?_)
  have aft4 : ∀ (k4 : Nat) (hk4 : (k4 : Int) ≤ (zM0 399 2)) (v2 : Int) (hv : v2 = zb (zany (fun q => zM0 399 (96 + 47 * q + 4) = 100 ∧ zM0 399 (96 + 47 * q + 1) = x0) k4 = true)) (hx4 : (k4 : Int) = (zM0 399 2)) (H : Heap) (locs : List Loc) (ls : Array Slot) (Wd : zW g (zA 410 ad s.heap.size) s.heap 410 ad zM0 zF0 H locs) (hl : lv_has ls 4 [(0, .ref (ad 398)), (1, .int (zI x0)), (2, .int (zI v2)), (3, .int (zI (k4 : Int)))]), W p l e (zrm 1 0 0) s m args below meth c H locs 0 0 (zMQ below g 410 ad (zPi (fun r M' F' => zb (zany (fun q => zM0 399 (96 + 47 * q + 4) = 100 ∧ zM0 399 (96 + 47 * q + 1) = x0) (zM0 399 2).toNat = true) = r ∧ zM0 = M' ∧ zF0 = F')) args s 0 0) (F0 m 51 ls []) := by
    intro k4 hk4 v2 hv hx4 H locs ls Wd hl
    replace hl : lv_has ls 4 [(0, .ref (ad 398)), (1, .int (zI x0)), (2, .int (zI v2))] := lv_sub hl [0, 1, 2] rfl
    have e4 : (zM0 399 2).toNat = k4 := by omega
    have h01 : v2 = 0 ∨ v2 = 1 := by rw [hv]; exact zb_01 _
    refine z_iload_n C0 hl 2 rfl dX12_drums_51 ?_
    exact z_zret C0 Wd hret hlk (by omega) ⟨by rw [e4, hv], rfl, rfl⟩ dX12_drums_52
  have lp4 : ∀ (d4 k4 : Nat) (hk4 : (k4 : Int) + d4 = (zM0 399 2)) (v2 : Int) (hv : v2 = zb (zany (fun q => zM0 399 (96 + 47 * q + 4) = 100 ∧ zM0 399 (96 + 47 * q + 1) = x0) k4 = true)) (H : Heap) (locs : List Loc) (ls : Array Slot) (Wd : zW g (zA 410 ad s.heap.size) s.heap 410 ad zM0 zF0 H locs) (hl : lv_has ls 4 [(0, .ref (ad 398)), (1, .int (zI x0)), (2, .int (zI v2)), (3, .int (zI (k4 : Int)))]), W p l e (zrm 1 0 0) s m args below meth c H locs 0 0 (zMQ below g 410 ad (zPi (fun r M' F' => zb (zany (fun q => zM0 399 (96 + 47 * q + 4) = 100 ∧ zM0 399 (96 + 47 * q + 1) = x0) (zM0 399 2).toNat = true) = r ∧ zM0 = M' ∧ zF0 = F')) args s 0 0) (F0 m 4 ls []) := by
    intro d4
    induction d4 with
    | zero =>
      intro k4 hk4 v2 hv H locs ls Wd hl
      have h01 : v2 = 0 ∨ v2 = 1 := by rw [hv]; exact zb_01 _
      refine z_iload_n C0 hl 3 rfl dX12_drums_4 ?_
      refine z_aload_n C0 hl 0 rfl dX12_drums_5 ?_
      refine zg_9_0 C0 Wd zN398 zK398 zk_1612 dX12_drums_6 ?_
      refine z_iconst C0 dX12_drums_9 ?_
      refine z_iald C0 Wd zN399 zK399 zL399 (by decide) (by decide) (by decide) dX12_drums_10 ?_
      have hz1 : zR (zM0 399 2) := Wd.rm _ _
      refine z_icmp_ge C0 (tgt := 51) (zR_mk (by omega) (by omega)) hz1 dX12_drums_11 (by decide) (fun c2 => ?_) (fun c2 => ?_)
      · skip
        first | exact aft4 k4 (by omega) v2 hv (by first | assumption | omega) _ _ _ Wd (lv_sub hl [0, 1, 2, 3] rfl) | (exfalso; omega)
      · skip
        exfalso; omega
    | succ d4 ih4 =>
      intro k4 hk4 v2 hv H locs ls Wd hl
      have h01 : v2 = 0 ∨ v2 = 1 := by rw [hv]; exact zb_01 _
      refine z_iload_n C0 hl 3 rfl dX12_drums_4 ?_
      refine z_aload_n C0 hl 0 rfl dX12_drums_5 ?_
      refine zg_9_0 C0 Wd zN398 zK398 zk_1612 dX12_drums_6 ?_
      refine z_iconst C0 dX12_drums_9 ?_
      refine z_iald C0 Wd zN399 zK399 zL399 (by decide) (by decide) (by decide) dX12_drums_10 ?_
      have hz3 : zR (zM0 399 2) := Wd.rm _ _
      refine z_icmp_ge C0 (tgt := 51) (zR_mk (by omega) (by omega)) hz3 dX12_drums_11 (by decide) (fun c4 => ?_) (fun c4 => ?_)
      · skip
        first | exact aft4 k4 (by omega) v2 hv (by first | assumption | omega) _ _ _ Wd (lv_sub hl [0, 1, 2, 3] rfl) | (exfalso; omega)
      · skip
        refine z_iload_n C0 hl 2 rfl dX12_drums_14 ?_
        refine z_if_ne C0 (tgt := 39) (zR_mk (by omega) (by omega)) dX12_drums_15 (by decide) (fun c5 => ?_) (fun c5 => ?_)
        · skip
          refine z_iconst C0 dX12_drums_39 ?_
          refine z_goto C0 (tgt := 44) dX12_drums_40 (by decide) ?_
          refine z_istore_n C0 hl [(2, .int (zI 1)), (0, .ref (ad 398)), (1, .int (zI x0)), (3, .int (zI (k4 : Int)))] (by decide) rfl dX12_drums_44 (fun ls hl => ?_)
          refine z_iinc C0 hl 3 (t := (k4 : Int)) (u := ((k4 : Int) + 1)) rfl (by omega) [(3, .int (zI ((k4 : Int) + 1))), (2, .int (zI 1)), (0, .ref (ad 398)), (1, .int (zI x0))] (by decide) rfl dX12_drums_45 (fun ls hl => ?_)
          refine z_goto C0 (tgt := 4) dX12_drums_48 (by decide) ?_
          exact ih4 (k4 + 1) (by omega) 1 (zany_step hv (by first | exact Or.inl ⟨rfl, Or.inl (by assumption)⟩ | exact Or.inl ⟨rfl, Or.inr ⟨by assumption, by assumption⟩⟩ | exact Or.inr ⟨rfl, by assumption, fun q => by omega⟩)) _ _ _ Wd (lv_sub hl [2, 3, 1, 0] rfl)
        · skip
          refine z_aload_n C0 hl 0 rfl dX12_drums_18 ?_
          refine z_iload_n C0 hl 3 rfl dX12_drums_19 ?_
          refine z_iconst C0 dX12_drums_20 ?_
          refine z_invVi (As := [.int (zI (k4 : Int)), .int (zI 4)]) (rest := []) C0 Wd (ct_X12_of l g ad zM0 zF0 (k4 : Int) (zR_mk (by omega) (by omega)) 4 (zR_mk (by decide) (by decide)) (by omega)) kv_X12_of zN398 (zE_9 zK398) rfl zk_1801 rfl hl.1 rfl (Nat.le_of_ble_eq_true rfl) (by decide) (by decide) dX12_drums_21 (fun r6 zMr6 zFr6 H locs hrr6 hp Wd => ?_)
          obtain ⟨rfl, rfl, rfl⟩ := hp
          refine z_bipush C0 dX12_drums_24 (by decide) ?_
          refine z_icmp_ne C0 (tgt := 43) hrr6 (zR_mk (by decide) (by decide)) dX12_drums_26 (by decide) (fun c8 => ?_) (fun c8 => ?_)
          · skip
            refine z_iconst C0 dX12_drums_43 ?_
            refine z_istore_n C0 hl [(2, .int (zI 0)), (0, .ref (ad 398)), (1, .int (zI x0)), (3, .int (zI (k4 : Int)))] (by decide) rfl dX12_drums_44 (fun ls hl => ?_)
            refine z_iinc C0 hl 3 (t := (k4 : Int)) (u := ((k4 : Int) + 1)) rfl (by omega) [(3, .int (zI ((k4 : Int) + 1))), (2, .int (zI 0)), (0, .ref (ad 398)), (1, .int (zI x0))] (by decide) rfl dX12_drums_45 (fun ls hl => ?_)
            refine z_goto C0 (tgt := 4) dX12_drums_48 (by decide) ?_
            exact ih4 (k4 + 1) (by omega) 0 (zany_step hv (by first | exact Or.inl ⟨rfl, Or.inl (by assumption)⟩ | exact Or.inl ⟨rfl, Or.inr ⟨by assumption, by assumption⟩⟩ | exact Or.inr ⟨rfl, by assumption, fun q => by omega⟩)) _ _ _ Wd (lv_sub hl [2, 3, 1, 0] rfl)
          · skip
            refine z_aload_n C0 hl 0 rfl dX12_drums_29 ?_
            refine z_iload_n C0 hl 3 rfl dX12_drums_30 ?_
            refine z_iconst C0 dX12_drums_31 ?_
            refine z_invVi (As := [.int (zI (k4 : Int)), .int (zI 1)]) (rest := []) C0 Wd (ct_X12_of l g ad zM0 zF0 (k4 : Int) (zR_mk (by omega) (by omega)) 1 (zR_mk (by decide) (by decide)) (by omega)) kv_X12_of zN398 (zE_9 zK398) rfl zk_1801 rfl hl.1 rfl (Nat.le_of_ble_eq_true rfl) (by decide) (by decide) dX12_drums_32 (fun r9 zMr9 zFr9 H locs hrr9 hp Wd => ?_)
            obtain ⟨rfl, rfl, rfl⟩ := hp
            refine z_iload_n C0 hl 1 rfl dX12_drums_35 ?_
            refine z_icmp_ne C0 (tgt := 43) hrr9 hx0 dX12_drums_36 (by decide) (fun c11 => ?_) (fun c11 => ?_)
            · skip
              refine z_iconst C0 dX12_drums_43 ?_
              refine z_istore_n C0 hl [(2, .int (zI 0)), (0, .ref (ad 398)), (1, .int (zI x0)), (3, .int (zI (k4 : Int)))] (by decide) rfl dX12_drums_44 (fun ls hl => ?_)
              refine z_iinc C0 hl 3 (t := (k4 : Int)) (u := ((k4 : Int) + 1)) rfl (by omega) [(3, .int (zI ((k4 : Int) + 1))), (2, .int (zI 0)), (0, .ref (ad 398)), (1, .int (zI x0))] (by decide) rfl dX12_drums_45 (fun ls hl => ?_)
              refine z_goto C0 (tgt := 4) dX12_drums_48 (by decide) ?_
              exact ih4 (k4 + 1) (by omega) 0 (zany_step hv (by first | exact Or.inl ⟨rfl, Or.inl (by assumption)⟩ | exact Or.inl ⟨rfl, Or.inr ⟨by assumption, by assumption⟩⟩ | exact Or.inr ⟨rfl, by assumption, fun q => by omega⟩)) _ _ _ Wd (lv_sub hl [2, 3, 1, 0] rfl)
            · skip
              refine z_iconst C0 dX12_drums_39 ?_
              refine z_goto C0 (tgt := 44) dX12_drums_40 (by decide) ?_
              refine z_istore_n C0 hl [(2, .int (zI 1)), (0, .ref (ad 398)), (1, .int (zI x0)), (3, .int (zI (k4 : Int)))] (by decide) rfl dX12_drums_44 (fun ls hl => ?_)
              refine z_iinc C0 hl 3 (t := (k4 : Int)) (u := ((k4 : Int) + 1)) rfl (by omega) [(3, .int (zI ((k4 : Int) + 1))), (2, .int (zI 1)), (0, .ref (ad 398)), (1, .int (zI x0))] (by decide) rfl dX12_drums_45 (fun ls hl => ?_)
              refine z_goto C0 (tgt := 4) dX12_drums_48 (by decide) ?_
              exact ih4 (k4 + 1) (by omega) 1 (zany_step hv (by first | exact Or.inl ⟨rfl, Or.inl (by assumption)⟩ | exact Or.inl ⟨rfl, Or.inr ⟨by assumption, by assumption⟩⟩ | exact Or.inr ⟨rfl, by assumption, fun q => by omega⟩)) _ _ _ Wd (lv_sub hl [2, 3, 1, 0] rfl)
  exact lp4 ((zM0 399 2)).toNat 0 (by omega) 0 (by rw [zb_f (by simp [zany])]) _ _ _ Wd (lv_sub hl [2, 3, 1, 0] rfl)
theorem kv_X12_finds : zKV yX12_finds cX12_finds 7 none "DrumWarrenModel" 1 := ⟨zk_1744, zk_1743, zk_32, zk_80, by decide, by decide, by decide +kernel⟩
set_option maxHeartbeats 4000000 in
set_option maxRecDepth 100000 in
theorem ct_X12_finds (l : Launch) (g : zG) (ad : Int → Nat) (zM0 zF0 : zMem) (x0 : Int) (hx0 : zR x0) (hT : ∀ i, 8 ≤ i → i < 72 → 0 ≤ zM0 399 i ∧ zM0 399 i ≤ 9) : zMt l yX12_finds cX12_finds 7 none 1 0 0 g 410 ad [.ref (ad 398), .int (zI x0)] zM0 zF0 (zPv (fun M' F' => (∃ r : Int → Int, (∀ j, 0 ≤ j → j < 8 → r j = zBF (zM0 399) x0 j) ∧ (zrow zM0 404 r) = M' ∧ zF0 = F'))) := by
  refine zMt.of "DrumWarrenModel" rfl (by decide) (Nat.le_of_ble_eq_true rfl) (fun {p e s m args below meth c ls} C0 Wd hl hret hlk hin => ?_)
  have hl : lv_has ls 7 [(0, .ref (ad 398)), (1, .int (zI x0))] := hl
  refine z_iconst C0 dX12_finds_0 ?_
  refine z_istore_n C0 hl [(2, .int (zI 0)), (0, .ref (ad 398)), (1, .int (zI x0))] (by decide) rfl dX12_finds_1 (fun ls hl => ?_)
  have aft2 : ∀ (k2 : Nat) (hk2 : (k2 : Int) ≤ 8) (r2 : Int → Int) (hr2 : ∀ j : Int, 0 ≤ j → j < k2 → r2 j = zNr x0 j) (hx2 : (k2 : Int) = 8) (H : Heap) (locs : List Loc) (ls : Array Slot) (Wd : zW g (zA 410 ad s.heap.size) s.heap 410 ad (zrow zM0 404 r2) zF0 H locs) (hl : lv_has ls 7 [(0, .ref (ad 398)), (1, .int (zI x0)), (2, .int (zI (k2 : Int)))]), W p l e (zrm 1 0 0) s m args below meth c H locs 0 0 (zMQ below g 410 ad (zPv (fun M' F' => (∃ r : Int → Int, (∀ j, 0 ≤ j → j < 8 → r j = zBF (zM0 399) x0 j) ∧ (zrow zM0 404 r) = M' ∧ zF0 = F'))) args s 0 0) (F0 m 32 ls []) := by
    intro k2 hk2 r2 hr2 hx2 H locs ls Wd hl
    replace hl : lv_has ls 7 [(0, .ref (ad 398)), (1, .int (zI x0))] := lv_sub hl [0, 1] rfl
    obtain rfl : k2 = 8 := by omega
    refine z_iconst C0 dX12_finds_32 ?_
    refine z_istore_n C0 hl [(2, .int (zI 0)), (0, .ref (ad 398)), (1, .int (zI x0))] (by decide) rfl dX12_finds_33 (fun ls hl => ?_)
    have aft34 : ∀ (k34 : Nat) (hk34 : (k34 : Int) ≤ 8) (r34 : Int → Int) (hrr34 : ∀ j, 0 ≤ j → j < 8 → r34 j = zfold (fun _ q => zrxA (zM0 399) q) k34 (zNr x0) j) (hbr34 : ∀ j, 0 ≤ j → j < 8 → 0 ≤ r34 j ∧ r34 j ≤ 1000) (hx34 : (k34 : Int) = 8) (H : Heap) (locs : List Loc) (ls : Array Slot) (Wd : zW g (zA 410 ad s.heap.size) s.heap 410 ad (zrow zM0 404 r34) zF0 H locs) (hl : lv_has ls 7 [(0, .ref (ad 398)), (1, .int (zI x0)), (2, .int (zI (k34 : Int)))]), W p l e (zrm 1 0 0) s m args below meth c H locs 0 0 (zMQ below g 410 ad (zPv (fun M' F' => (∃ r : Int → Int, (∀ j, 0 ≤ j → j < 8 → r j = zBF (zM0 399) x0 j) ∧ (zrow zM0 404 r) = M' ∧ zF0 = F'))) args s 0 0) (F0 m 151 ls []) := by
      intro k34 hk34 r34 hrr34 hbr34 hx34 H locs ls Wd hl
      replace hl : lv_has ls 7 [(0, .ref (ad 398)), (1, .int (zI x0))] := lv_sub hl [0, 1] rfl
      obtain rfl : k34 = 8 := by omega
      exact z_vret C0 Wd hret hlk ⟨_, hrr34, rfl, rfl⟩ dX12_finds_151
    have lp34 : ∀ (d34 k34 : Nat) (hk34 : (k34 : Int) + d34 = 8) (r34 : Int → Int) (hrr34 : ∀ j, 0 ≤ j → j < 8 → r34 j = zfold (fun _ q => zrxA (zM0 399) q) k34 (zNr x0) j) (hbr34 : ∀ j, 0 ≤ j → j < 8 → 0 ≤ r34 j ∧ r34 j ≤ 1000) (H : Heap) (locs : List Loc) (ls : Array Slot) (Wd : zW g (zA 410 ad s.heap.size) s.heap 410 ad (zrow zM0 404 r34) zF0 H locs) (hl : lv_has ls 7 [(0, .ref (ad 398)), (1, .int (zI x0)), (2, .int (zI (k34 : Int)))]), W p l e (zrm 1 0 0) s m args below meth c H locs 0 0 (zMQ below g 410 ad (zPv (fun M' F' => (∃ r : Int → Int, (∀ j, 0 ≤ j → j < 8 → r j = zBF (zM0 399) x0 j) ∧ (zrow zM0 404 r) = M' ∧ zF0 = F'))) args s 0 0) (F0 m 34 ls []) := by
      intro d34
      induction d34 with
      | zero =>
        intro k34 hk34 r34 hrr34 hbr34 H locs ls Wd hl
        refine z_iload_n C0 hl 2 rfl dX12_finds_34 ?_
        refine z_bipush C0 dX12_finds_35 (by decide) ?_
        refine z_icmp_ge C0 (tgt := 151) (zR_mk (by omega) (by omega)) (zR_mk (by decide) (by decide)) dX12_finds_37 (by decide) (fun c1 => ?_) (fun c1 => ?_)
        · skip
          first | exact aft34 k34 (by omega) r34 hrr34 hbr34 (by first | assumption | omega) _ _ _ Wd (lv_sub hl [0, 1, 2] rfl) | (exfalso; omega)
        · skip
          exfalso; omega
      | succ d34 ih34 =>
        intro k34 hk34 r34 hrr34 hbr34 H locs ls Wd hl
        refine z_iload_n C0 hl 2 rfl dX12_finds_34 ?_
        refine z_bipush C0 dX12_finds_35 (by decide) ?_
        refine z_icmp_ge C0 (tgt := 151) (zR_mk (by omega) (by omega)) (zR_mk (by decide) (by decide)) dX12_finds_37 (by decide) (fun c2 => ?_) (fun c2 => ?_)
        · skip
          first | exact aft34 k34 (by omega) r34 hrr34 hbr34 (by first | assumption | omega) _ _ _ Wd (lv_sub hl [0, 1, 2] rfl) | (exfalso; omega)
        · skip
          refine z_iconst C0 dX12_finds_40 ?_
          refine z_istore_n C0 hl [(3, .int (zI 0)), (0, .ref (ad 398)), (1, .int (zI x0)), (2, .int (zI (k34 : Int)))] (by decide) rfl dX12_finds_41 (fun ls hl => ?_)
          have aft42 : ∀ (k42 : Nat) (hk42 : (k42 : Int) ≤ 8) (r42 : Int → Int) (hrr42 : ∀ j, 0 ≤ j → j < 8 → r42 j = zfold (fun a q => zrxB (zM0 399) a q) k42 (zfold (fun _ q => zrxA (zM0 399) q) k34 (zNr x0)) j) (hbr42 : ∀ j, 0 ≤ j → j < 8 → 0 ≤ r42 j ∧ r42 j ≤ 1000) (hx42 : (k42 : Int) = 8) (H : Heap) (locs : List Loc) (ls : Array Slot) (Wd : zW g (zA 410 ad s.heap.size) s.heap 410 ad (zrow zM0 404 r42) zF0 H locs) (hl : lv_has ls 7 [(0, .ref (ad 398)), (1, .int (zI x0)), (2, .int (zI (k34 : Int))), (3, .int (zI (k42 : Int)))]), W p l e (zrm 1 0 0) s m args below meth c H locs 0 0 (zMQ below g 410 ad (zPv (fun M' F' => (∃ r : Int → Int, (∀ j, 0 ≤ j → j < 8 → r j = zBF (zM0 399) x0 j) ∧ (zrow zM0 404 r) = M' ∧ zF0 = F'))) args s 0 0) (F0 m 145 ls []) := by
            intro k42 hk42 r42 hrr42 hbr42 hx42 H locs ls Wd hl
            replace hl : lv_has ls 7 [(0, .ref (ad 398)), (1, .int (zI x0)), (2, .int (zI (k34 : Int)))] := lv_sub hl [0, 1, 2] rfl
            obtain rfl : k42 = 8 := by omega
            refine z_iinc C0 hl 2 (t := (k34 : Int)) (u := ((k34 : Int) + 1)) rfl (by omega) [(2, .int (zI ((k34 : Int) + 1))), (0, .ref (ad 398)), (1, .int (zI x0))] (by decide) rfl dX12_finds_145 (fun ls hl => ?_)
            refine z_goto C0 (tgt := 34) dX12_finds_148 (by decide) ?_
            exact ih34 (k34 + 1) (by omega) r42 hrr42 hbr42 _ _ _ Wd (lv_sub hl [1, 2, 0] rfl)
          have lp42 : ∀ (d42 k42 : Nat) (hk42 : (k42 : Int) + d42 = 8) (r42 : Int → Int) (hrr42 : ∀ j, 0 ≤ j → j < 8 → r42 j = zfold (fun a q => zrxB (zM0 399) a q) k42 (zfold (fun _ q => zrxA (zM0 399) q) k34 (zNr x0)) j) (hbr42 : ∀ j, 0 ≤ j → j < 8 → 0 ≤ r42 j ∧ r42 j ≤ 1000) (H : Heap) (locs : List Loc) (ls : Array Slot) (Wd : zW g (zA 410 ad s.heap.size) s.heap 410 ad (zrow zM0 404 r42) zF0 H locs) (hl : lv_has ls 7 [(0, .ref (ad 398)), (1, .int (zI x0)), (2, .int (zI (k34 : Int))), (3, .int (zI (k42 : Int)))]), W p l e (zrm 1 0 0) s m args below meth c H locs 0 0 (zMQ below g 410 ad (zPv (fun M' F' => (∃ r : Int → Int, (∀ j, 0 ≤ j → j < 8 → r j = zBF (zM0 399) x0 j) ∧ (zrow zM0 404 r) = M' ∧ zF0 = F'))) args s 0 0) (F0 m 42 ls []) := by
            intro d42
            induction d42 with
            | zero =>
              intro k42 hk42 r42 hrr42 hbr42 H locs ls Wd hl
              refine z_iload_n C0 hl 3 rfl dX12_finds_42 ?_
              refine z_bipush C0 dX12_finds_43 (by decide) ?_
              refine z_icmp_ge C0 (tgt := 145) (zR_mk (by omega) (by omega)) (zR_mk (by decide) (by decide)) dX12_finds_45 (by decide) (fun c3 => ?_) (fun c3 => ?_)
              · skip
                first | exact aft42 k42 (by omega) r42 hrr42 hbr42 (by first | assumption | omega) _ _ _ Wd (lv_sub hl [0, 1, 2, 3] rfl) | (exfalso; omega)
              · skip
                exfalso; omega
            | succ d42 ih42 =>
              intro k42 hk42 r42 hrr42 hbr42 H locs ls Wd hl
              refine z_iload_n C0 hl 3 rfl dX12_finds_42 ?_
              refine z_bipush C0 dX12_finds_43 (by decide) ?_
              refine z_icmp_ge C0 (tgt := 145) (zR_mk (by omega) (by omega)) (zR_mk (by decide) (by decide)) dX12_finds_45 (by decide) (fun c4 => ?_) (fun c4 => ?_)
              · skip
                first | exact aft42 k42 (by omega) r42 hrr42 hbr42 (by first | assumption | omega) _ _ _ Wd (lv_sub hl [0, 1, 2, 3] rfl) | (exfalso; omega)
              · skip
                refine z_iconst C0 dX12_finds_48 ?_
                refine z_istore C0 hl [(4, .int (zI 0)), (0, .ref (ad 398)), (1, .int (zI x0)), (2, .int (zI (k34 : Int))), (3, .int (zI (k42 : Int)))] (by decide) rfl dX12_finds_49 (fun ls hl => ?_)
                have aft51 : ∀ (k51 : Nat) (hk51 : (k51 : Int) ≤ 8) (r51 : Int → Int) (hrr51 : ∀ j, 0 ≤ j → j < 8 → r51 j = zfold (fun b q => zrx (zM0 399) k42 b q) k51 (zfold (fun a q => zrxB (zM0 399) a q) k42 (zfold (fun _ q => zrxA (zM0 399) q) k34 (zNr x0))) j) (hbr51 : ∀ j, 0 ≤ j → j < 8 → 0 ≤ r51 j ∧ r51 j ≤ 1000) (hx51 : (k51 : Int) = 8) (H : Heap) (locs : List Loc) (ls : Array Slot) (Wd : zW g (zA 410 ad s.heap.size) s.heap 410 ad (zrow zM0 404 r51) zF0 H locs) (hl : lv_has ls 7 [(0, .ref (ad 398)), (1, .int (zI x0)), (2, .int (zI (k34 : Int))), (3, .int (zI (k42 : Int))), (4, .int (zI (k51 : Int)))]), W p l e (zrm 1 0 0) s m args below meth c H locs 0 0 (zMQ below g 410 ad (zPv (fun M' F' => (∃ r : Int → Int, (∀ j, 0 ≤ j → j < 8 → r j = zBF (zM0 399) x0 j) ∧ (zrow zM0 404 r) = M' ∧ zF0 = F'))) args s 0 0) (F0 m 139 ls []) := by
                  intro k51 hk51 r51 hrr51 hbr51 hx51 H locs ls Wd hl
                  replace hl : lv_has ls 7 [(0, .ref (ad 398)), (1, .int (zI x0)), (2, .int (zI (k34 : Int))), (3, .int (zI (k42 : Int)))] := lv_sub hl [0, 1, 2, 3] rfl
                  obtain rfl : k51 = 8 := by omega
                  refine z_iinc C0 hl 3 (t := (k42 : Int)) (u := ((k42 : Int) + 1)) rfl (by omega) [(3, .int (zI ((k42 : Int) + 1))), (0, .ref (ad 398)), (1, .int (zI x0)), (2, .int (zI (k34 : Int)))] (by decide) rfl dX12_finds_139 (fun ls hl => ?_)
                  refine z_goto C0 (tgt := 42) dX12_finds_142 (by decide) ?_
                  exact ih42 (k42 + 1) (by omega) r51 hrr51 hbr51 _ _ _ Wd (lv_sub hl [1, 2, 3, 0] rfl)
                have lp51 : ∀ (d51 k51 : Nat) (hk51 : (k51 : Int) + d51 = 8) (r51 : Int → Int) (hrr51 : ∀ j, 0 ≤ j → j < 8 → r51 j = zfold (fun b q => zrx (zM0 399) k42 b q) k51 (zfold (fun a q => zrxB (zM0 399) a q) k42 (zfold (fun _ q => zrxA (zM0 399) q) k34 (zNr x0))) j) (hbr51 : ∀ j, 0 ≤ j → j < 8 → 0 ≤ r51 j ∧ r51 j ≤ 1000) (H : Heap) (locs : List Loc) (ls : Array Slot) (Wd : zW g (zA 410 ad s.heap.size) s.heap 410 ad (zrow zM0 404 r51) zF0 H locs) (hl : lv_has ls 7 [(0, .ref (ad 398)), (1, .int (zI x0)), (2, .int (zI (k34 : Int))), (3, .int (zI (k42 : Int))), (4, .int (zI (k51 : Int)))]), W p l e (zrm 1 0 0) s m args below meth c H locs 0 0 (zMQ below g 410 ad (zPv (fun M' F' => (∃ r : Int → Int, (∀ j, 0 ≤ j → j < 8 → r j = zBF (zM0 399) x0 j) ∧ (zrow zM0 404 r) = M' ∧ zF0 = F'))) args s 0 0) (F0 m 51 ls []) := by
                  intro d51
                  induction d51 with
                  | zero =>
                    intro k51 hk51 r51 hrr51 hbr51 H locs ls Wd hl
                    refine z_iload C0 hl 4 rfl dX12_finds_51 ?_
                    refine z_bipush C0 dX12_finds_53 (by decide) ?_
                    refine z_icmp_ge C0 (tgt := 139) (zR_mk (by omega) (by omega)) (zR_mk (by decide) (by decide)) dX12_finds_55 (by decide) (fun c5 => ?_) (fun c5 => ?_)
                    · skip
                      first | exact aft51 k51 (by omega) r51 hrr51 hbr51 (by first | assumption | omega) _ _ _ Wd (lv_sub hl [0, 1, 2, 3, 4] rfl) | (exfalso; omega)
                    · skip
                      exfalso; omega
                  | succ d51 ih51 =>
                    intro k51 hk51 r51 hrr51 hbr51 H locs ls Wd hl
                    refine z_iload C0 hl 4 rfl dX12_finds_51 ?_
                    refine z_bipush C0 dX12_finds_53 (by decide) ?_
                    refine z_icmp_ge C0 (tgt := 139) (zR_mk (by omega) (by omega)) (zR_mk (by decide) (by decide)) dX12_finds_55 (by decide) (fun c6 => ?_) (fun c6 => ?_)
                    · skip
                      first | exact aft51 k51 (by omega) r51 hrr51 hbr51 (by first | assumption | omega) _ _ _ Wd (lv_sub hl [0, 1, 2, 3, 4] rfl) | (exfalso; omega)
                    · skip
                      have hq1 := hbr51 (k42 : Int) (by omega) (by omega)
                      have hq2 := hbr51 (k51 : Int) (by omega) (by omega)
                      have hq3 := hT (8 + 8 * (k42 : Int) + (k51 : Int)) (by omega) (by omega)
                      refine z_aload_n C0 hl 0 rfl dX12_finds_58 ?_
                      refine zg_9_0 C0 Wd zN398 zK398 zk_1612 dX12_finds_59 ?_
                      refine z_iload_n C0 hl 3 rfl dX12_finds_62 ?_
                      refine z_iload C0 hl 4 rfl dX12_finds_63 ?_
                      refine z_invSi (As := [.int (zI (k42 : Int)), .int (zI (k51 : Int))]) (rest := [.ref (ad 399)]) C0 Wd (ct_X12_tunnel l g ad (zrow zM0 404 r51) zF0 (k42 : Int) (zR_mk (by omega) (by omega)) (k51 : Int) (zR_mk (by omega) (by omega)) (by omega)) kv_X12_tunnel zk_1710 rfl hl.1 rfl (Nat.le_of_ble_eq_true rfl) (by decide) (by decide) dX12_finds_65 (fun r7 zMr7 zFr7 H locs hrr7 hp Wd => ?_)
                      obtain ⟨rfl, rfl, rfl⟩ := hp
                      refine z_iald C0 Wd zN399 zK399 zL399 (by omega) (by omega) (by decide) dX12_finds_68 ?_
                      obtain ⟨he11, hz9⟩ : ((zrow zM0 404 r51) 399 (8 + 8 * (k42 : Int) + (k51 : Int))) = (zM0 399 (8 + 8 * (k42 : Int) + (k51 : Int))) ∧ zR (zM0 399 (8 + 8 * (k42 : Int) + (k51 : Int))) := (fun q => ⟨q, q ▸ Wd.rm _ _⟩) (congrFun (zrow_ne (by decide)) _)
                      refine z_top (congrArg zI he11) ?_
                      clear he11
                      refine z_istore C0 hl [(5, .int (zI (zM0 399 (8 + 8 * (k42 : Int) + (k51 : Int))))), (0, .ref (ad 398)), (1, .int (zI x0)), (2, .int (zI (k34 : Int))), (3, .int (zI (k42 : Int))), (4, .int (zI (k51 : Int)))] (by decide) rfl dX12_finds_69 (fun ls hl => ?_)
                      refine z_iload C0 hl 0 rfl dX12_finds_71 ?_
                      refine z_if_le C0 (tgt := 99) hz9 dX12_finds_73 (by decide) (fun c12 => ?_) (fun c12 => ?_)
                      · skip
                        refine z_iconst C0 dX12_finds_99 ?_
                        refine z_istore C0 hl [(6, .int (zI 0)), (5, .int (zI (zM0 399 (8 + 8 * (k42 : Int) + (k51 : Int))))), (0, .ref (ad 398)), (1, .int (zI x0)), (2, .int (zI (k34 : Int))), (3, .int (zI (k42 : Int))), (4, .int (zI (k51 : Int)))] (by decide) rfl dX12_finds_100 (fun ls hl => ?_)
                        refine z_aload_n C0 hl 2 rfl dX12_finds_102 ?_
                        refine zg_9_7 C0 Wd zN398 zK398 zk_1619 dX12_finds_103 ?_
                        refine z_iload C0 hl 6 rfl dX12_finds_106 ?_
                        refine z_iload C0 hl 0 rfl dX12_finds_108 ?_
                        refine z_if_eq C0 (tgt := 125) (zR_mk (by decide) (by decide)) dX12_finds_110 (by decide) (fun _ => ?_) (fun h => absurd h (by decide))
                        refine z_aload_n C0 hl 2 rfl dX12_finds_125 ?_
                        refine zg_9_7 C0 Wd zN398 zK398 zk_1619 dX12_finds_126 ?_
                        refine z_iload C0 hl 6 rfl dX12_finds_129 ?_
                        refine z_iald C0 Wd zN404 zK404 zL404 (by omega) (by omega) (by decide) dX12_finds_131 ?_
                        obtain ⟨he16, hz14⟩ : ((zrow zM0 404 r51) 404 (k51 : Int)) = (r51 (k51 : Int)) ∧ zR (r51 (k51 : Int)) := (fun q => ⟨q, q ▸ Wd.rm _ _⟩) (congrFun (zrow_same _ _ _) _)
                        refine z_top (congrArg zI he16) ?_
                        clear he16
                        refine z_iast C0 Wd zN404 zK404 zL404 (by omega) (by omega) (by decide) hz14 dX12_finds_132 (fun H locs Wd => ?_)
                        refine z_iinc C0 hl 6 (t := (k51 : Int)) (u := ((k51 : Int) + 1)) rfl (by omega) [(4, .int (zI ((k51 : Int) + 1))), (6, .int (zI 0)), (5, .int (zI (zM0 399 (8 + 8 * (k42 : Int) + (k51 : Int))))), (0, .ref (ad 398)), (1, .int (zI x0)), (2, .int (zI (k34 : Int))), (3, .int (zI (k42 : Int)))] (by decide) rfl dX12_finds_133 (fun ls hl => ?_)
                        refine z_goto C0 (tgt := 51) dX12_finds_136 (by decide) ?_
                        exact ih51 (k51 + 1) (by omega) (zup r51 (k51 : Int) (r51 (k51 : Int))) (zrx_step hrr51 ⟨by omega, by omega⟩ ⟨by omega, by omega⟩ (by first | (rw [if_pos ⟨by omega, by omega⟩]; done) | (rw [if_neg (by omega)]; done))) (zup_bd hbr51 (by omega)) _ _ _ (by rw [← zu_zrow]; exact Wd) (lv_sub hl [3, 4, 5, 6, 0] rfl)
                      · skip
                        refine z_aload_n C0 hl 1 rfl dX12_finds_76 ?_
                        refine zg_9_7 C0 Wd zN398 zK398 zk_1619 dX12_finds_77 ?_
                        refine z_iload_n C0 hl 4 rfl dX12_finds_80 ?_
                        refine z_iald C0 Wd zN404 zK404 zL404 (by omega) (by omega) (by decide) dX12_finds_81 ?_
                        obtain ⟨he19, hz17⟩ : ((zrow zM0 404 r51) 404 (k42 : Int)) = (r51 (k42 : Int)) ∧ zR (r51 (k42 : Int)) := (fun q => ⟨q, q ▸ Wd.rm _ _⟩) (congrFun (zrow_same _ _ _) _)
                        refine z_top (congrArg zI he19) ?_
                        clear he19
                        refine z_iload C0 hl 0 rfl dX12_finds_82 ?_
                        refine z_iadd C0 dX12_finds_84 ?_
                        refine z_aload_n C0 hl 1 rfl dX12_finds_85 ?_
                        refine zg_9_7 C0 Wd zN398 zK398 zk_1619 dX12_finds_86 ?_
                        refine z_iload C0 hl 5 rfl dX12_finds_89 ?_
                        refine z_iald C0 Wd zN404 zK404 zL404 (by omega) (by omega) (by decide) dX12_finds_91 ?_
                        obtain ⟨he22, hz20⟩ : ((zrow zM0 404 r51) 404 (k51 : Int)) = (r51 (k51 : Int)) ∧ zR (r51 (k51 : Int)) := (fun q => ⟨q, q ▸ Wd.rm _ _⟩) (congrFun (zrow_same _ _ _) _)
                        refine z_top (congrArg zI he22) ?_
                        clear he22
                        refine z_icmp_ge C0 (tgt := 99) (by have q0 := hz17.1; have p0 := hz17.2; have q1 := hz9.1; have p1 := hz9.2; exact zR_mk (by omega) (by omega)) hz20 dX12_finds_92 (by decide) (fun c23 => ?_) (fun c23 => ?_)
                        · skip
                          refine z_iconst C0 dX12_finds_99 ?_
                          refine z_istore C0 hl [(6, .int (zI 0)), (5, .int (zI (zM0 399 (8 + 8 * (k42 : Int) + (k51 : Int))))), (0, .ref (ad 398)), (1, .int (zI x0)), (2, .int (zI (k34 : Int))), (3, .int (zI (k42 : Int))), (4, .int (zI (k51 : Int)))] (by decide) rfl dX12_finds_100 (fun ls hl => ?_)
                          refine z_aload_n C0 hl 2 rfl dX12_finds_102 ?_
                          refine zg_9_7 C0 Wd zN398 zK398 zk_1619 dX12_finds_103 ?_
                          refine z_iload C0 hl 6 rfl dX12_finds_106 ?_
                          refine z_iload C0 hl 0 rfl dX12_finds_108 ?_
                          refine z_if_eq C0 (tgt := 125) (zR_mk (by decide) (by decide)) dX12_finds_110 (by decide) (fun _ => ?_) (fun h => absurd h (by decide))
                          refine z_aload_n C0 hl 2 rfl dX12_finds_125 ?_
                          refine zg_9_7 C0 Wd zN398 zK398 zk_1619 dX12_finds_126 ?_
                          refine z_iload C0 hl 6 rfl dX12_finds_129 ?_
                          refine z_iald C0 Wd zN404 zK404 zL404 (by omega) (by omega) (by decide) dX12_finds_131 ?_
                          obtain ⟨he27, hz25⟩ : ((zrow zM0 404 r51) 404 (k51 : Int)) = (r51 (k51 : Int)) ∧ zR (r51 (k51 : Int)) := (fun q => ⟨q, q ▸ Wd.rm _ _⟩) (congrFun (zrow_same _ _ _) _)
                          refine z_top (congrArg zI he27) ?_
                          clear he27
                          refine z_iast C0 Wd zN404 zK404 zL404 (by omega) (by omega) (by decide) hz25 dX12_finds_132 (fun H locs Wd => ?_)
                          refine z_iinc C0 hl 6 (t := (k51 : Int)) (u := ((k51 : Int) + 1)) rfl (by omega) [(4, .int (zI ((k51 : Int) + 1))), (6, .int (zI 0)), (5, .int (zI (zM0 399 (8 + 8 * (k42 : Int) + (k51 : Int))))), (0, .ref (ad 398)), (1, .int (zI x0)), (2, .int (zI (k34 : Int))), (3, .int (zI (k42 : Int)))] (by decide) rfl dX12_finds_133 (fun ls hl => ?_)
                          refine z_goto C0 (tgt := 51) dX12_finds_136 (by decide) ?_
                          exact ih51 (k51 + 1) (by omega) (zup r51 (k51 : Int) (r51 (k51 : Int))) (zrx_step hrr51 ⟨by omega, by omega⟩ ⟨by omega, by omega⟩ (by first | (rw [if_pos ⟨by omega, by omega⟩]; done) | (rw [if_neg (by omega)]; done))) (zup_bd hbr51 (by omega)) _ _ _ (by rw [← zu_zrow]; exact Wd) (lv_sub hl [3, 4, 5, 6, 0] rfl)
                        · skip
                          refine z_iconst C0 dX12_finds_95 ?_
                          refine z_goto C0 (tgt := 100) dX12_finds_96 (by decide) ?_
                          refine z_istore C0 hl [(6, .int (zI 1)), (5, .int (zI (zM0 399 (8 + 8 * (k42 : Int) + (k51 : Int))))), (0, .ref (ad 398)), (1, .int (zI x0)), (2, .int (zI (k34 : Int))), (3, .int (zI (k42 : Int))), (4, .int (zI (k51 : Int)))] (by decide) rfl dX12_finds_100 (fun ls hl => ?_)
                          refine z_aload_n C0 hl 2 rfl dX12_finds_102 ?_
                          refine zg_9_7 C0 Wd zN398 zK398 zk_1619 dX12_finds_103 ?_
                          refine z_iload C0 hl 6 rfl dX12_finds_106 ?_
                          refine z_iload C0 hl 0 rfl dX12_finds_108 ?_
                          refine z_if_eq C0 (tgt := 125) (zR_mk (by decide) (by decide)) dX12_finds_110 (by decide) (fun h => absurd h (by decide)) (fun _ => ?_)
                          refine z_aload_n C0 hl 2 rfl dX12_finds_113 ?_
                          refine zg_9_7 C0 Wd zN398 zK398 zk_1619 dX12_finds_114 ?_
                          refine z_iload_n C0 hl 5 rfl dX12_finds_117 ?_
                          refine z_iald C0 Wd zN404 zK404 zL404 (by omega) (by omega) (by decide) dX12_finds_118 ?_
                          obtain ⟨he31, hz29⟩ : ((zrow zM0 404 r51) 404 (k42 : Int)) = (r51 (k42 : Int)) ∧ zR (r51 (k42 : Int)) := (fun q => ⟨q, q ▸ Wd.rm _ _⟩) (congrFun (zrow_same _ _ _) _)
                          refine z_top (congrArg zI he31) ?_
                          clear he31
                          refine z_iload C0 hl 1 rfl dX12_finds_119 ?_
                          refine z_iadd C0 dX12_finds_121 ?_
                          refine z_goto C0 (tgt := 132) dX12_finds_122 (by decide) ?_
                          refine z_iast C0 Wd zN404 zK404 zL404 (by omega) (by omega) (by decide) (by have q0 := hz29.1; have p0 := hz29.2; have q1 := hz9.1; have p1 := hz9.2; exact zR_mk (by omega) (by omega)) dX12_finds_132 (fun H locs Wd => ?_)
                          refine z_iinc C0 hl 6 (t := (k51 : Int)) (u := ((k51 : Int) + 1)) rfl (by omega) [(4, .int (zI ((k51 : Int) + 1))), (6, .int (zI 1)), (5, .int (zI (zM0 399 (8 + 8 * (k42 : Int) + (k51 : Int))))), (0, .ref (ad 398)), (1, .int (zI x0)), (2, .int (zI (k34 : Int))), (3, .int (zI (k42 : Int)))] (by decide) rfl dX12_finds_133 (fun ls hl => ?_)
                          refine z_goto C0 (tgt := 51) dX12_finds_136 (by decide) ?_
                          exact ih51 (k51 + 1) (by omega) (zup r51 (k51 : Int) ((r51 (k42 : Int)) + (zM0 399 (8 + 8 * (k42 : Int) + (k51 : Int))))) (zrx_step hrr51 ⟨by omega, by omega⟩ ⟨by omega, by omega⟩ (by first | (rw [if_pos ⟨by omega, by omega⟩]; done) | (rw [if_neg (by omega)]; done))) (zup_bd hbr51 (by omega)) _ _ _ (by rw [← zu_zrow]; exact Wd) (lv_sub hl [3, 4, 5, 6, 0] rfl)
                exact lp51 8 0 (by omega) r42 hrr42 hbr42 _ _ _ Wd (lv_sub hl [1, 2, 3, 4, 0] rfl)
          exact lp42 8 0 (by omega) r34 hrr34 hbr34 _ _ _ Wd (lv_sub hl [1, 2, 3, 0] rfl)
    exact lp34 8 0 (by omega) r2 hr2 (fun j h0 h1 => by rw [hr2 j h0 h1]; exact zNr_bd _ _) _ _ _ Wd (lv_sub hl [1, 2, 0] rfl)
  have lp2 : ∀ (d2 k2 : Nat) (hk2 : (k2 : Int) + d2 = 8) (r2 : Int → Int) (hr2 : ∀ j : Int, 0 ≤ j → j < k2 → r2 j = zNr x0 j) (H : Heap) (locs : List Loc) (ls : Array Slot) (Wd : zW g (zA 410 ad s.heap.size) s.heap 410 ad (zrow zM0 404 r2) zF0 H locs) (hl : lv_has ls 7 [(0, .ref (ad 398)), (1, .int (zI x0)), (2, .int (zI (k2 : Int)))]), W p l e (zrm 1 0 0) s m args below meth c H locs 0 0 (zMQ below g 410 ad (zPv (fun M' F' => (∃ r : Int → Int, (∀ j, 0 ≤ j → j < 8 → r j = zBF (zM0 399) x0 j) ∧ (zrow zM0 404 r) = M' ∧ zF0 = F'))) args s 0 0) (F0 m 2 ls []) := by
    intro d2
    induction d2 with
    | zero =>
      intro k2 hk2 r2 hr2 H locs ls Wd hl
      refine z_iload_n C0 hl 2 rfl dX12_finds_2 ?_
      refine z_bipush C0 dX12_finds_3 (by decide) ?_
      refine z_icmp_ge C0 (tgt := 32) (zR_mk (by omega) (by omega)) (zR_mk (by decide) (by decide)) dX12_finds_5 (by decide) (fun c32 => ?_) (fun c32 => ?_)
      · skip
        first | exact aft2 k2 (by omega) r2 hr2 (by first | assumption | omega) _ _ _ Wd (lv_sub hl [0, 1, 2] rfl) | (exfalso; omega)
      · skip
        exfalso; omega
    | succ d2 ih2 =>
      intro k2 hk2 r2 hr2 H locs ls Wd hl
      refine z_iload_n C0 hl 2 rfl dX12_finds_2 ?_
      refine z_bipush C0 dX12_finds_3 (by decide) ?_
      refine z_icmp_ge C0 (tgt := 32) (zR_mk (by omega) (by omega)) (zR_mk (by decide) (by decide)) dX12_finds_5 (by decide) (fun c33 => ?_) (fun c33 => ?_)
      · skip
        first | exact aft2 k2 (by omega) r2 hr2 (by first | assumption | omega) _ _ _ Wd (lv_sub hl [0, 1, 2] rfl) | (exfalso; omega)
      · skip
        refine z_aload_n C0 hl 0 rfl dX12_finds_8 ?_
        refine zg_9_7 C0 Wd zN398 zK398 zk_1619 dX12_finds_9 ?_
        refine z_iload_n C0 hl 2 rfl dX12_finds_12 ?_
        refine z_iload_n C0 hl 2 rfl dX12_finds_13 ?_
        refine z_iload_n C0 hl 1 rfl dX12_finds_14 ?_
        refine z_icmp_ne C0 (tgt := 22) (zR_mk (by omega) (by omega)) hx0 dX12_finds_15 (by decide) (fun c34 => ?_) (fun c34 => ?_)
        · skip
          refine z_sipush C0 dX12_finds_22 (by decide) ?_
          refine z_iast C0 Wd zN404 zK404 zL404 (by omega) (by omega) (by decide) (zR_mk (by decide) (by decide)) dX12_finds_25 (fun H locs Wd => ?_)
          refine z_iinc C0 hl 2 (t := (k2 : Int)) (u := ((k2 : Int) + 1)) rfl (by omega) [(2, .int (zI ((k2 : Int) + 1))), (0, .ref (ad 398)), (1, .int (zI x0))] (by decide) rfl dX12_finds_26 (fun ls hl => ?_)
          refine z_goto C0 (tgt := 2) dX12_finds_29 (by decide) ?_
          exact ih2 (k2 + 1) (by omega) (zup r2 (k2 : Int) 1000) (zNr_step hr2 (by first | (rw [zNr, if_pos (by omega)]; done) | (rw [zNr, if_neg (by omega)]; done))) _ _ _ (by rw [← zu_zrow]; exact Wd) (lv_sub hl [1, 2, 0] rfl)
        · skip
          refine z_iconst C0 dX12_finds_18 ?_
          refine z_goto C0 (tgt := 25) dX12_finds_19 (by decide) ?_
          refine z_iast C0 Wd zN404 zK404 zL404 (by omega) (by omega) (by decide) (zR_mk (by decide) (by decide)) dX12_finds_25 (fun H locs Wd => ?_)
          refine z_iinc C0 hl 2 (t := (k2 : Int)) (u := ((k2 : Int) + 1)) rfl (by omega) [(2, .int (zI ((k2 : Int) + 1))), (0, .ref (ad 398)), (1, .int (zI x0))] (by decide) rfl dX12_finds_26 (fun ls hl => ?_)
          refine z_goto C0 (tgt := 2) dX12_finds_29 (by decide) ?_
          exact ih2 (k2 + 1) (by omega) (zup r2 (k2 : Int) 0) (zNr_step hr2 (by first | (rw [zNr, if_pos (by omega)]; done) | (rw [zNr, if_neg (by omega)]; done))) _ _ _ (by rw [← zu_zrow]; exact Wd) (lv_sub hl [1, 2, 0] rfl)
  exact lp2 8 0 (by omega) (zM0 404) (fun j h0 h1 => by omega) _ _ _ (by rw [zrow_eta]; exact Wd) (lv_sub hl [1, 2, 0] rfl)
theorem kv_X12_tunnels : zKV yX12_tunnels cX12_tunnels 4 (some .int) "DrumWarrenModel" 0 := ⟨zk_1716, zk_1715, zk_30, zk_80, by decide, by decide, by decide +kernel⟩
set_option maxHeartbeats 4000000 in
set_option maxRecDepth 100000 in
theorem ct_X12_tunnels (l : Launch) (g : zG) (ad : Int → Nat) (zM0 zF0 : zMem) : zMt l yX12_tunnels cX12_tunnels 4 (some .int) 1 0 0 g 410 ad [.ref (ad 398)] zM0 zF0 (zPi (fun r M' F' => zfold (fun a c => zfold (fun b c => c + zb (0 < zM0 399 (8 + 8 * a + b))) a.toNat c) 8 0 = r ∧ zM0 = M' ∧ zF0 = F')) := by
  refine zMt.of "DrumWarrenModel" rfl (by decide) (Nat.le_of_ble_eq_true rfl) (fun {p e s m args below meth c ls} C0 Wd hl hret hlk hin => ?_)
  have hl : lv_has ls 4 [(0, .ref (ad 398))] := hl
  refine z_iconst C0 dX12_tunnels_0 ?_
  refine z_istore_n C0 hl [(1, .int (zI 0)), (0, .ref (ad 398))] (by decide) rfl dX12_tunnels_1 (fun ls hl => ?_)
  refine z_iconst C0 dX12_tunnels_2 ?_
  refine z_istore_n C0 hl [(2, .int (zI 0)), (1, .int (zI 0)), (0, .ref (ad 398))] (by decide) rfl dX12_tunnels_3 (fun ls hl => ?_)
  have aft4 : ∀ (k4 : Nat) (hk4 : (k4 : Int) ≤ 8) (v1 : Int) (hv : v1 = zfold (fun a c => zfold (fun b c => c + zb (0 < zM0 399 (8 + 8 * a + b))) a.toNat c) k4 0) (hw : 0 ≤ v1 ∧ v1 ≤ 8 * k4) (hx4 : (k4 : Int) = 8) (H : Heap) (locs : List Loc) (ls : Array Slot) (Wd : zW g (zA 410 ad s.heap.size) s.heap 410 ad zM0 zF0 H locs) (hl : lv_has ls 4 [(0, .ref (ad 398)), (1, .int (zI v1)), (2, .int (zI (k4 : Int)))]), W p l e (zrm 1 0 0) s m args below meth c H locs 0 0 (zMQ below g 410 ad (zPi (fun r M' F' => zfold (fun a c => zfold (fun b c => c + zb (0 < zM0 399 (8 + 8 * a + b))) a.toNat c) 8 0 = r ∧ zM0 = M' ∧ zF0 = F')) args s 0 0) (F0 m 50 ls []) := by
    intro k4 hk4 v1 hv hw hx4 H locs ls Wd hl
    replace hl : lv_has ls 4 [(0, .ref (ad 398)), (1, .int (zI v1))] := lv_sub hl [0, 1] rfl
    obtain rfl : k4 = 8 := by omega
    refine z_iload_n C0 hl 1 rfl dX12_tunnels_50 ?_
    exact z_iret C0 Wd hret hlk (zR_mk (by omega) (by omega)) ⟨hv.symm, rfl, rfl⟩ dX12_tunnels_51
  have lp4 : ∀ (d4 k4 : Nat) (hk4 : (k4 : Int) + d4 = 8) (v1 : Int) (hv : v1 = zfold (fun a c => zfold (fun b c => c + zb (0 < zM0 399 (8 + 8 * a + b))) a.toNat c) k4 0) (hw : 0 ≤ v1 ∧ v1 ≤ 8 * k4) (H : Heap) (locs : List Loc) (ls : Array Slot) (Wd : zW g (zA 410 ad s.heap.size) s.heap 410 ad zM0 zF0 H locs) (hl : lv_has ls 4 [(0, .ref (ad 398)), (1, .int (zI v1)), (2, .int (zI (k4 : Int)))]), W p l e (zrm 1 0 0) s m args below meth c H locs 0 0 (zMQ below g 410 ad (zPi (fun r M' F' => zfold (fun a c => zfold (fun b c => c + zb (0 < zM0 399 (8 + 8 * a + b))) a.toNat c) 8 0 = r ∧ zM0 = M' ∧ zF0 = F')) args s 0 0) (F0 m 4 ls []) := by
    intro d4
    induction d4 with
    | zero =>
      intro k4 hk4 v1 hv hw H locs ls Wd hl
      refine z_iload_n C0 hl 2 rfl dX12_tunnels_4 ?_
      refine z_bipush C0 dX12_tunnels_5 (by decide) ?_
      refine z_icmp_ge C0 (tgt := 50) (zR_mk (by omega) (by omega)) (zR_mk (by decide) (by decide)) dX12_tunnels_7 (by decide) (fun c1 => ?_) (fun c1 => ?_)
      · skip
        first | exact aft4 k4 (by omega) v1 hv hw (by first | assumption | omega) _ _ _ Wd (lv_sub hl [0, 1, 2] rfl) | (exfalso; omega)
      · skip
        exfalso; omega
    | succ d4 ih4 =>
      intro k4 hk4 v1 hv hw H locs ls Wd hl
      refine z_iload_n C0 hl 2 rfl dX12_tunnels_4 ?_
      refine z_bipush C0 dX12_tunnels_5 (by decide) ?_
      refine z_icmp_ge C0 (tgt := 50) (zR_mk (by omega) (by omega)) (zR_mk (by decide) (by decide)) dX12_tunnels_7 (by decide) (fun c2 => ?_) (fun c2 => ?_)
      · skip
        first | exact aft4 k4 (by omega) v1 hv hw (by first | assumption | omega) _ _ _ Wd (lv_sub hl [0, 1, 2] rfl) | (exfalso; omega)
      · skip
        refine z_iconst C0 dX12_tunnels_10 ?_
        refine z_istore_n C0 hl [(3, .int (zI 0)), (0, .ref (ad 398)), (1, .int (zI v1)), (2, .int (zI (k4 : Int)))] (by decide) rfl dX12_tunnels_11 (fun ls hl => ?_)
        have aft12 : ∀ (k12 : Nat) (hk12 : (k12 : Int) ≤ (k4 : Int)) (u1 : Int) (hu : u1 = zfold (fun b c => c + zb (0 < zM0 399 (8 + 8 * (k4 : Int) + b))) k12 v1) (hy : v1 ≤ u1 ∧ u1 ≤ v1 + k12) (hx12 : (k12 : Int) = (k4 : Int)) (H : Heap) (locs : List Loc) (ls : Array Slot) (Wd : zW g (zA 410 ad s.heap.size) s.heap 410 ad zM0 zF0 H locs) (hl : lv_has ls 4 [(0, .ref (ad 398)), (1, .int (zI u1)), (2, .int (zI (k4 : Int))), (3, .int (zI (k12 : Int)))]), W p l e (zrm 1 0 0) s m args below meth c H locs 0 0 (zMQ below g 410 ad (zPi (fun r M' F' => zfold (fun a c => zfold (fun b c => c + zb (0 < zM0 399 (8 + 8 * a + b))) a.toNat c) 8 0 = r ∧ zM0 = M' ∧ zF0 = F')) args s 0 0) (F0 m 44 ls []) := by
          intro k12 hk12 u1 hu hy hx12 H locs ls Wd hl
          replace hl : lv_has ls 4 [(0, .ref (ad 398)), (1, .int (zI u1)), (2, .int (zI (k4 : Int)))] := lv_sub hl [0, 1, 2] rfl
          refine z_iinc C0 hl 2 (t := (k4 : Int)) (u := ((k4 : Int) + 1)) rfl (by omega) [(2, .int (zI ((k4 : Int) + 1))), (0, .ref (ad 398)), (1, .int (zI u1))] (by decide) rfl dX12_tunnels_44 (fun ls hl => ?_)
          refine z_goto C0 (tgt := 4) dX12_tunnels_47 (by decide) ?_
          exact ih4 (k4 + 1) (by omega) u1 (by rw [hu]; simp only [zfold]; rw [← hv, show ((k4 : Int)).toNat = k12 by omega]) (by omega) _ _ _ Wd (lv_sub hl [1, 2, 0] rfl)
        have lp12 : ∀ (d12 k12 : Nat) (hk12 : (k12 : Int) + d12 = (k4 : Int)) (u1 : Int) (hu : u1 = zfold (fun b c => c + zb (0 < zM0 399 (8 + 8 * (k4 : Int) + b))) k12 v1) (hy : v1 ≤ u1 ∧ u1 ≤ v1 + k12) (H : Heap) (locs : List Loc) (ls : Array Slot) (Wd : zW g (zA 410 ad s.heap.size) s.heap 410 ad zM0 zF0 H locs) (hl : lv_has ls 4 [(0, .ref (ad 398)), (1, .int (zI u1)), (2, .int (zI (k4 : Int))), (3, .int (zI (k12 : Int)))]), W p l e (zrm 1 0 0) s m args below meth c H locs 0 0 (zMQ below g 410 ad (zPi (fun r M' F' => zfold (fun a c => zfold (fun b c => c + zb (0 < zM0 399 (8 + 8 * a + b))) a.toNat c) 8 0 = r ∧ zM0 = M' ∧ zF0 = F')) args s 0 0) (F0 m 12 ls []) := by
          intro d12
          induction d12 with
          | zero =>
            intro k12 hk12 u1 hu hy H locs ls Wd hl
            refine z_iload_n C0 hl 3 rfl dX12_tunnels_12 ?_
            refine z_iload_n C0 hl 2 rfl dX12_tunnels_13 ?_
            refine z_icmp_ge C0 (tgt := 44) (zR_mk (by omega) (by omega)) (zR_mk (by omega) (by omega)) dX12_tunnels_14 (by decide) (fun c3 => ?_) (fun c3 => ?_)
            · skip
              first | exact aft12 k12 (by omega) u1 hu hy (by first | assumption | omega) _ _ _ Wd (lv_sub hl [0, 1, 2, 3] rfl) | (exfalso; omega)
            · skip
              exfalso; omega
          | succ d12 ih12 =>
            intro k12 hk12 u1 hu hy H locs ls Wd hl
            refine z_iload_n C0 hl 3 rfl dX12_tunnels_12 ?_
            refine z_iload_n C0 hl 2 rfl dX12_tunnels_13 ?_
            refine z_icmp_ge C0 (tgt := 44) (zR_mk (by omega) (by omega)) (zR_mk (by omega) (by omega)) dX12_tunnels_14 (by decide) (fun c4 => ?_) (fun c4 => ?_)
            · skip
              first | exact aft12 k12 (by omega) u1 hu hy (by first | assumption | omega) _ _ _ Wd (lv_sub hl [0, 1, 2, 3] rfl) | (exfalso; omega)
            · skip
              refine z_iload_n C0 hl 1 rfl dX12_tunnels_17 ?_
              refine z_aload_n C0 hl 0 rfl dX12_tunnels_18 ?_
              refine zg_9_0 C0 Wd zN398 zK398 zk_1612 dX12_tunnels_19 ?_
              refine z_iload_n C0 hl 2 rfl dX12_tunnels_22 ?_
              refine z_iload_n C0 hl 3 rfl dX12_tunnels_23 ?_
              refine z_invSi (As := [.int (zI (k4 : Int)), .int (zI (k12 : Int))]) (rest := [.ref (ad 399), .int (zI u1)]) C0 Wd (ct_X12_tunnel l g ad zM0 zF0 (k4 : Int) (zR_mk (by omega) (by omega)) (k12 : Int) (zR_mk (by omega) (by omega)) (by omega)) kv_X12_tunnel zk_1710 rfl hl.1 rfl (Nat.le_of_ble_eq_true rfl) (by decide) (by decide) dX12_tunnels_24 (fun r5 zMr5 zFr5 H locs hrr5 hp Wd => ?_)
              obtain ⟨rfl, rfl, rfl⟩ := hp
              refine z_iald C0 Wd zN399 zK399 zL399 (by omega) (by omega) (by decide) dX12_tunnels_27 ?_
              have hz7 : zR (zM0 399 (8 + 8 * (k4 : Int) + (k12 : Int))) := Wd.rm _ _
              refine z_if_le C0 (tgt := 35) hz7 dX12_tunnels_28 (by decide) (fun c8 => ?_) (fun c8 => ?_)
              · skip
                refine z_iconst C0 dX12_tunnels_35 ?_
                refine z_iadd C0 dX12_tunnels_36 ?_
                refine z_istore_n C0 hl [(1, .int (zI (u1 + 0))), (0, .ref (ad 398)), (2, .int (zI (k4 : Int))), (3, .int (zI (k12 : Int)))] (by decide) rfl dX12_tunnels_37 (fun ls hl => ?_)
                refine z_iinc C0 hl 3 (t := (k12 : Int)) (u := ((k12 : Int) + 1)) rfl (by omega) [(3, .int (zI ((k12 : Int) + 1))), (1, .int (zI (u1 + 0))), (0, .ref (ad 398)), (2, .int (zI (k4 : Int)))] (by decide) rfl dX12_tunnels_38 (fun ls hl => ?_)
                refine z_goto C0 (tgt := 12) dX12_tunnels_41 (by decide) ?_
                exact ih12 (k12 + 1) (by omega) (u1 + 0) (by simp only [zfold]; rw [← hu]; first | (rw [zb_t (by omega)]; done) | (rw [zb_f (by omega)]; done) | (rw [zb_f (by omega)]; omega)) (by omega) _ _ _ Wd (lv_sub hl [2, 1, 3, 0] rfl)
              · skip
                refine z_iconst C0 dX12_tunnels_31 ?_
                refine z_goto C0 (tgt := 36) dX12_tunnels_32 (by decide) ?_
                refine z_iadd C0 dX12_tunnels_36 ?_
                refine z_istore_n C0 hl [(1, .int (zI (u1 + 1))), (0, .ref (ad 398)), (2, .int (zI (k4 : Int))), (3, .int (zI (k12 : Int)))] (by decide) rfl dX12_tunnels_37 (fun ls hl => ?_)
                refine z_iinc C0 hl 3 (t := (k12 : Int)) (u := ((k12 : Int) + 1)) rfl (by omega) [(3, .int (zI ((k12 : Int) + 1))), (1, .int (zI (u1 + 1))), (0, .ref (ad 398)), (2, .int (zI (k4 : Int)))] (by decide) rfl dX12_tunnels_38 (fun ls hl => ?_)
                refine z_goto C0 (tgt := 12) dX12_tunnels_41 (by decide) ?_
                exact ih12 (k12 + 1) (by omega) (u1 + 1) (by simp only [zfold]; rw [← hu]; first | (rw [zb_t (by omega)]; done) | (rw [zb_f (by omega)]; done) | (rw [zb_f (by omega)]; omega)) (by omega) _ _ _ Wd (lv_sub hl [2, 1, 3, 0] rfl)
        exact lp12 ((k4 : Int)).toNat 0 (by omega) v1 rfl (by omega) _ _ _ Wd (lv_sub hl [1, 2, 3, 0] rfl)
  exact lp4 8 0 (by omega) 0 rfl (by omega) _ _ _ Wd (lv_sub hl [2, 1, 0] rfl)
