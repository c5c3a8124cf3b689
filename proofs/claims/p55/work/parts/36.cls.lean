/-! the class: what a State tells -/
theorem kv_X10_hasHare : zKV yX10_hasHare cX10_hasHare 2 (some .boolean) "DrumWarren$State" 1 := ⟨zk_635, zk_633, zk_634, zk_26, by decide, by decide, by decide +kernel⟩
set_option maxHeartbeats 4000000 in
set_option maxRecDepth 100000 in
theorem ct_X10_hasHare (l : Launch) (g : zG) (zX : va_W) (ad : Int → Nat) (zM0 zF0 : zMem) (b : Int) (hb : zB b) (V : Int → Int) (zt : Int) (x0 : Int) (hx0 : zR x0) (hR : zRS b V zM0 zF0) (hI : zIV zt V) : zMt l yX10_hasHare cX10_hasHare 2 (some .boolean) 0 0 0 g (0, 398, zX) ad [.ref (ad b), .int (zI x0)] zM0 zF0 (zPi (fun r M' F' => zb (0 ≤ x0 ∧ x0 < V 1) = r ∧ zM0 = M' ∧ zF0 = F')) := by
  refine zMt.of "DrumWarren$State" rfl (by decide +kernel) (Nat.le_of_ble_eq_true rfl) (fun {p e s m args below meth c ls} C0 Wd hl hret hlk hin => ?_)
  have hl : lv_has ls 2 [(0, .ref (ad b)), (1, .int (zI x0))] := hl
  have h0b := hI.1
  have h1b := hI.2.1
  have h2b := hI.2.2.1
  refine z_iload_n C0 hl 1 rfl dX10_hasHare_0 ?_
  refine z_if_lt C0 (tgt := 16) hx0 dX10_hasHare_1 (by decide) (fun c1 => ?_) (fun c1 => ?_)
  · skip
    refine z_iconst C0 dX10_hasHare_16 ?_
    exact z_zret C0 Wd hret hlk (by decide) ⟨by first | rfl | (rw [zb_t (by omega)]; done) | (rw [zb_f (by omega)]; done), rfl, rfl⟩ dX10_hasHare_17
  · skip
    refine z_iload_n C0 hl 1 rfl dX10_hasHare_4 ?_
    refine z_aload_n C0 hl 0 rfl dX10_hasHare_5 ?_
    refine zg_7_2 C0 Wd (znB0 hb) (zkB0 hb) zk_196 dX10_hasHare_6 ?_
    obtain ⟨he3, hz2⟩ : (zM0 b 2) = (V 1) ∧ zR (V 1) := (fun q => ⟨q, q ▸ Wd.rm _ _⟩) hR.c2
    refine z_top (congrArg zI he3) ?_
    clear he3
    refine z_icmp_ge C0 (tgt := 16) hx0 hz2 dX10_hasHare_9 (by decide) (fun c4 => ?_) (fun c4 => ?_)
    · skip
      refine z_iconst C0 dX10_hasHare_16 ?_
      exact z_zret C0 Wd hret hlk (by decide) ⟨by first | rfl | (rw [zb_t (by omega)]; done) | (rw [zb_f (by omega)]; done), rfl, rfl⟩ dX10_hasHare_17
    · skip
      refine z_iconst C0 dX10_hasHare_12 ?_
      refine z_goto C0 (tgt := 17) dX10_hasHare_13 (by decide) ?_
      exact z_zret C0 Wd hret hlk (by decide) ⟨by first | rfl | (rw [zb_t (by omega)]; done) | (rw [zb_f (by omega)]; done), rfl, rfl⟩ dX10_hasHare_17
theorem kv_X10_placeOf : zKV yX10_placeOf cX10_placeOf 2 (some .int) "DrumWarren$State" 1 := ⟨zk_665, zk_663, zk_664, zk_26, by decide, by decide, by decide +kernel⟩
set_option maxHeartbeats 4000000 in
set_option maxRecDepth 100000 in
theorem ct_X10_placeOf (l : Launch) (g : zG) (zX : va_W) (ad : Int → Nat) (zM0 zF0 : zMem) (b : Int) (hb : zB b) (V : Int → Int) (zt : Int) (x0 : Int) (hx0 : zR x0) (hR : zRS b V zM0 zF0) (hI : zIV zt V) : zMt l yX10_placeOf cX10_placeOf 2 (some .int) 1 0 0 g (0, 398, zX) ad [.ref (ad b), .int (zI x0)] zM0 zF0 (zPi (fun r M' F' => ((zisH V x0) ∧ (V (72 + 4 * x0 + 0)) = r ∧ zM0 = M' ∧ zF0 = F') ∨ ((¬ (zisH V x0)) ∧ (-1) = r ∧ zM0 = M' ∧ zF0 = F'))) := by
  refine zMt.of "DrumWarren$State" rfl (by decide +kernel) (Nat.le_of_ble_eq_true rfl) (fun {p e s m args below meth c ls} C0 Wd hl hret hlk hin => ?_)
  have hl : lv_has ls 2 [(0, .ref (ad b)), (1, .int (zI x0))] := hl
  have h0b := hI.1
  have h1b := hI.2.1
  have h2b := hI.2.2.1
  refine z_aload_n C0 hl 0 rfl dX10_placeOf_0 ?_
  refine z_iload_n C0 hl 1 rfl dX10_placeOf_1 ?_
  refine z_invVi (As := [.int (zI x0)]) (rest := []) C0 Wd (ct_X10_hasHare l g zX ad zM0 zF0 b hb V zt x0 hx0 hR hI) kv_X10_hasHare (znB0 hb) (zE_7 (zkB0 hb)) rfl zk_632 rfl hl.1 rfl (Nat.le_of_ble_eq_true rfl) (by decide) (by decide) dX10_placeOf_2 (fun r1 zMr1 zFr1 H locs hrr1 hp Wd => ?_)
  obtain ⟨rfl, rfl, rfl⟩ := hp
  refine z_if_eq_b C0 (tgt := 20) dX10_placeOf_5 (by decide) (fun c3 => ?_) (fun c3 => ?_)
  · skip
    refine z_iconst C0 dX10_placeOf_20 ?_
    exact z_iret C0 Wd hret hlk (zR_mk (by decide) (by decide)) (Or.inr ⟨by omega, rfl, rfl, rfl⟩) dX10_placeOf_21
  · skip
    refine z_aload_n C0 hl 0 rfl dX10_placeOf_8 ?_
    refine zg_7_1 C0 Wd (znB0 hb) (zkB0 hb) zk_195 dX10_placeOf_9 ?_
    refine z_iload_n C0 hl 1 rfl dX10_placeOf_12 ?_
    refine z_aald15 C0 Wd (znB5 hb) (zkB5 hb) (zlB5 hb) (by omega) (by omega) (by decide) dX10_placeOf_13 ?_
    refine z_rf (show ((b + 5) + 4 + x0) = (b + 9 + x0) by omega) ?_
    refine zg_4_0 C0 Wd (znBh hb (by omega) (by omega)) (zkBh hb (by omega) (by omega)) zk_133 dX10_placeOf_14 ?_
    obtain ⟨he5, hz4⟩ : (zM0 (b + 9 + x0) 0) = (V (72 + 4 * x0 + 0)) ∧ zR (V (72 + 4 * x0 + 0)) := (fun q => ⟨q, q ▸ Wd.rm _ _⟩) (hR.h0 (by omega) (by omega))
    refine z_top (congrArg zI he5) ?_
    clear he5
    refine z_goto C0 (tgt := 21) dX10_placeOf_17 (by decide) ?_
    exact z_iret C0 Wd hret hlk hz4 (Or.inl ⟨by omega, rfl, rfl, rfl⟩) dX10_placeOf_21
theorem kv_X10_listens : zKV yX10_listens cX10_listens 2 (some .boolean) "DrumWarren$State" 1 := ⟨zk_650, zk_648, zk_649, zk_26, by decide, by decide, by decide +kernel⟩
set_option maxHeartbeats 4000000 in
set_option maxRecDepth 100000 in
theorem ct_X10_listens (l : Launch) (g : zG) (zX : va_W) (ad : Int → Nat) (zM0 zF0 : zMem) (b : Int) (hb : zB b) (V : Int → Int) (zt : Int) (x0 : Int) (hx0 : zR x0) (hR : zRS b V zM0 zF0) (hI : zIV zt V) : zMt l yX10_listens cX10_listens 2 (some .boolean) 1 0 0 g (0, 398, zX) ad [.ref (ad b), .int (zI x0)] zM0 zF0 (zPi (fun r M' F' => ((zisH V x0) ∧ (V (72 + 4 * x0 + 1)) = r ∧ zM0 = M' ∧ zF0 = F') ∨ ((¬ (zisH V x0)) ∧ 0 = r ∧ zM0 = M' ∧ zF0 = F'))) := by
  refine zMt.of "DrumWarren$State" rfl (by decide +kernel) (Nat.le_of_ble_eq_true rfl) (fun {p e s m args below meth c ls} C0 Wd hl hret hlk hin => ?_)
  have hl : lv_has ls 2 [(0, .ref (ad b)), (1, .int (zI x0))] := hl
  have h0b := hI.1
  have h1b := hI.2.1
  have h2b := hI.2.2.1
  have hh1 : 0 ≤ x0 ∧ x0 < V 1 → V (72 + 4 * x0 + 1) = 0 ∨ V (72 + 4 * x0 + 1) = 1 := fun z => (hI.2.2.2.2.2.1 x0 z.1 z.2).2.1
  refine z_aload_n C0 hl 0 rfl dX10_listens_0 ?_
  refine z_iload_n C0 hl 1 rfl dX10_listens_1 ?_
  refine z_invVi (As := [.int (zI x0)]) (rest := []) C0 Wd (ct_X10_hasHare l g zX ad zM0 zF0 b hb V zt x0 hx0 hR hI) kv_X10_hasHare (znB0 hb) (zE_7 (zkB0 hb)) rfl zk_632 rfl hl.1 rfl (Nat.le_of_ble_eq_true rfl) (by decide) (by decide) dX10_listens_2 (fun r1 zMr1 zFr1 H locs hrr1 hp Wd => ?_)
  obtain ⟨rfl, rfl, rfl⟩ := hp
  refine z_if_eq_b C0 (tgt := 24) dX10_listens_5 (by decide) (fun c3 => ?_) (fun c3 => ?_)
  · skip
    refine z_iconst C0 dX10_listens_24 ?_
    exact z_zret C0 Wd hret hlk (by decide) (by first | exact Or.inr ⟨by omega, rfl, rfl, rfl⟩ | exact Or.inl ⟨by omega, by omega, rfl, rfl⟩) dX10_listens_25
  · skip
    refine z_aload_n C0 hl 0 rfl dX10_listens_8 ?_
    refine zg_7_1 C0 Wd (znB0 hb) (zkB0 hb) zk_195 dX10_listens_9 ?_
    refine z_iload_n C0 hl 1 rfl dX10_listens_12 ?_
    refine z_aald15 C0 Wd (znB5 hb) (zkB5 hb) (zlB5 hb) (by omega) (by omega) (by decide) dX10_listens_13 ?_
    refine z_rf (show ((b + 5) + 4 + x0) = (b + 9 + x0) by omega) ?_
    refine zg_4_1 C0 Wd (znBh hb (by omega) (by omega)) (zkBh hb (by omega) (by omega)) zk_135 dX10_listens_14 ?_
    obtain ⟨he5, hz4⟩ : (zM0 (b + 9 + x0) 1) = (V (72 + 4 * x0 + 1)) ∧ zR (V (72 + 4 * x0 + 1)) := (fun q => ⟨q, q ▸ Wd.rm _ _⟩) (hR.h1 (by omega) (by omega))
    refine z_top (congrArg zI he5) ?_
    clear he5
    refine z_if_eq C0 (tgt := 24) hz4 dX10_listens_17 (by decide) (fun c6 => ?_) (fun c6 => ?_)
    · skip
      refine z_iconst C0 dX10_listens_24 ?_
      exact z_zret C0 Wd hret hlk (by decide) (by first | exact Or.inr ⟨by omega, rfl, rfl, rfl⟩ | exact Or.inl ⟨by omega, by omega, rfl, rfl⟩) dX10_listens_25
    · skip
      refine z_iconst C0 dX10_listens_20 ?_
      refine z_goto C0 (tgt := 25) dX10_listens_21 (by decide) ?_
      exact z_zret C0 Wd hret hlk (by decide) (by first | exact Or.inr ⟨by omega, rfl, rfl, rfl⟩ | exact Or.inl ⟨by omega, by omega, rfl, rfl⟩) dX10_listens_25
theorem kv_X10_receivedBy : zKV yX10_receivedBy cX10_receivedBy 2 (some .int) "DrumWarren$State" 1 := ⟨zk_920, zk_918, zk_919, zk_26, by decide, by decide, by decide +kernel⟩
set_option maxHeartbeats 4000000 in
set_option maxRecDepth 100000 in
theorem ct_X10_receivedBy (l : Launch) (g : zG) (zX : va_W) (ad : Int → Nat) (zM0 zF0 : zMem) (b : Int) (hb : zB b) (V : Int → Int) (zt : Int) (x0 : Int) (hx0 : zR x0) (hR : zRS b V zM0 zF0) (hI : zIV zt V) : zMt l yX10_receivedBy cX10_receivedBy 2 (some .int) 1 0 0 g (0, 398, zX) ad [.ref (ad b), .int (zI x0)] zM0 zF0 (zPi (fun r M' F' => ((zisH V x0) ∧ (V (72 + 4 * x0 + 2)) = r ∧ zM0 = M' ∧ zF0 = F') ∨ ((¬ (zisH V x0)) ∧ 0 = r ∧ zM0 = M' ∧ zF0 = F'))) := by
  refine zMt.of "DrumWarren$State" rfl (by decide +kernel) (Nat.le_of_ble_eq_true rfl) (fun {p e s m args below meth c ls} C0 Wd hl hret hlk hin => ?_)
  have hl : lv_has ls 2 [(0, .ref (ad b)), (1, .int (zI x0))] := hl
  have h0b := hI.1
  have h1b := hI.2.1
  have h2b := hI.2.2.1
  refine z_aload_n C0 hl 0 rfl dX10_receivedBy_0 ?_
  refine z_iload_n C0 hl 1 rfl dX10_receivedBy_1 ?_
  refine z_invVi (As := [.int (zI x0)]) (rest := []) C0 Wd (ct_X10_hasHare l g zX ad zM0 zF0 b hb V zt x0 hx0 hR hI) kv_X10_hasHare (znB0 hb) (zE_7 (zkB0 hb)) rfl zk_632 rfl hl.1 rfl (Nat.le_of_ble_eq_true rfl) (by decide) (by decide) dX10_receivedBy_2 (fun r1 zMr1 zFr1 H locs hrr1 hp Wd => ?_)
  obtain ⟨rfl, rfl, rfl⟩ := hp
  refine z_if_eq_b C0 (tgt := 20) dX10_receivedBy_5 (by decide) (fun c3 => ?_) (fun c3 => ?_)
  · skip
    refine z_iconst C0 dX10_receivedBy_20 ?_
    exact z_iret C0 Wd hret hlk (zR_mk (by decide) (by decide)) (Or.inr ⟨by omega, rfl, rfl, rfl⟩) dX10_receivedBy_21
  · skip
    refine z_aload_n C0 hl 0 rfl dX10_receivedBy_8 ?_
    refine zg_7_1 C0 Wd (znB0 hb) (zkB0 hb) zk_195 dX10_receivedBy_9 ?_
    refine z_iload_n C0 hl 1 rfl dX10_receivedBy_12 ?_
    refine z_aald15 C0 Wd (znB5 hb) (zkB5 hb) (zlB5 hb) (by omega) (by omega) (by decide) dX10_receivedBy_13 ?_
    refine z_rf (show ((b + 5) + 4 + x0) = (b + 9 + x0) by omega) ?_
    refine zg_4_2 C0 Wd (znBh hb (by omega) (by omega)) (zkBh hb (by omega) (by omega)) zk_137 dX10_receivedBy_14 ?_
    obtain ⟨he5, hz4⟩ : (zM0 (b + 9 + x0) 2) = (V (72 + 4 * x0 + 2)) ∧ zR (V (72 + 4 * x0 + 2)) := (fun q => ⟨q, q ▸ Wd.rm _ _⟩) (hR.h2 (by omega) (by omega))
    refine z_top (congrArg zI he5) ?_
    clear he5
    refine z_goto C0 (tgt := 21) dX10_receivedBy_17 (by decide) ?_
    exact z_iret C0 Wd hret hlk hz4 (Or.inl ⟨by omega, rfl, rfl, rfl⟩) dX10_receivedBy_21
theorem kv_X10_latestOf : zKV yX10_latestOf cX10_latestOf 2 (some .int) "DrumWarren$State" 1 := ⟨zk_961, zk_959, zk_960, zk_26, by decide, by decide, by decide +kernel⟩
set_option maxHeartbeats 4000000 in
set_option maxRecDepth 100000 in
theorem ct_X10_latestOf (l : Launch) (g : zG) (zX : va_W) (ad : Int → Nat) (zM0 zF0 : zMem) (b : Int) (hb : zB b) (V : Int → Int) (zt : Int) (x0 : Int) (hx0 : zR x0) (hR : zRS b V zM0 zF0) (hI : zIV zt V) : zMt l yX10_latestOf cX10_latestOf 2 (some .int) 1 0 0 g (0, 398, zX) ad [.ref (ad b), .int (zI x0)] zM0 zF0 (zPi (fun r M' F' => ((zisH V x0 ∧ 0 < V (72 + 4 * x0 + 2)) ∧ (V (72 + 4 * x0 + 3) - 1) = r ∧ zM0 = M' ∧ zF0 = F') ∨ ((¬ (zisH V x0 ∧ 0 < V (72 + 4 * x0 + 2))) ∧ (-1) = r ∧ zM0 = M' ∧ zF0 = F'))) := by
  refine zMt.of "DrumWarren$State" rfl (by decide +kernel) (Nat.le_of_ble_eq_true rfl) (fun {p e s m args below meth c ls} C0 Wd hl hret hlk hin => ?_)
  have hl : lv_has ls 2 [(0, .ref (ad b)), (1, .int (zI x0))] := hl
  have h0b := hI.1
  have h1b := hI.2.1
  have h2b := hI.2.2.1
  refine z_aload_n C0 hl 0 rfl dX10_latestOf_0 ?_
  refine z_iload_n C0 hl 1 rfl dX10_latestOf_1 ?_
  refine z_invVi (As := [.int (zI x0)]) (rest := []) C0 Wd (ct_X10_hasHare l g zX ad zM0 zF0 b hb V zt x0 hx0 hR hI) kv_X10_hasHare (znB0 hb) (zE_7 (zkB0 hb)) rfl zk_632 rfl hl.1 rfl (Nat.le_of_ble_eq_true rfl) (by decide) (by decide) dX10_latestOf_2 (fun r1 zMr1 zFr1 H locs hrr1 hp Wd => ?_)
  obtain ⟨rfl, rfl, rfl⟩ := hp
  refine z_if_eq_b C0 (tgt := 32) dX10_latestOf_5 (by decide) (fun c3 => ?_) (fun c3 => ?_)
  · skip
    refine z_iconst C0 dX10_latestOf_32 ?_
    exact z_iret C0 Wd hret hlk (zR_mk (by decide) (by decide)) (Or.inr ⟨by omega, rfl, rfl, rfl⟩) dX10_latestOf_33
  · skip
    refine z_aload_n C0 hl 0 rfl dX10_latestOf_8 ?_
    refine zg_7_1 C0 Wd (znB0 hb) (zkB0 hb) zk_195 dX10_latestOf_9 ?_
    refine z_iload_n C0 hl 1 rfl dX10_latestOf_12 ?_
    refine z_aald15 C0 Wd (znB5 hb) (zkB5 hb) (zlB5 hb) (by omega) (by omega) (by decide) dX10_latestOf_13 ?_
    refine z_rf (show ((b + 5) + 4 + x0) = (b + 9 + x0) by omega) ?_
    refine zg_4_2 C0 Wd (znBh hb (by omega) (by omega)) (zkBh hb (by omega) (by omega)) zk_137 dX10_latestOf_14 ?_
    obtain ⟨he5, hz4⟩ : (zM0 (b + 9 + x0) 2) = (V (72 + 4 * x0 + 2)) ∧ zR (V (72 + 4 * x0 + 2)) := (fun q => ⟨q, q ▸ Wd.rm _ _⟩) (hR.h2 (by omega) (by omega))
    refine z_top (congrArg zI he5) ?_
    clear he5
    refine z_if_le C0 (tgt := 32) hz4 dX10_latestOf_17 (by decide) (fun c6 => ?_) (fun c6 => ?_)
    · skip
      refine z_iconst C0 dX10_latestOf_32 ?_
      exact z_iret C0 Wd hret hlk (zR_mk (by decide) (by decide)) (Or.inr ⟨by omega, rfl, rfl, rfl⟩) dX10_latestOf_33
    · skip
      refine z_aload_n C0 hl 0 rfl dX10_latestOf_20 ?_
      refine zg_7_1 C0 Wd (znB0 hb) (zkB0 hb) zk_195 dX10_latestOf_21 ?_
      refine z_iload_n C0 hl 1 rfl dX10_latestOf_24 ?_
      refine z_aald15 C0 Wd (znB5 hb) (zkB5 hb) (zlB5 hb) (by omega) (by omega) (by decide) dX10_latestOf_25 ?_
      refine z_rf (show ((b + 5) + 4 + x0) = (b + 9 + x0) by omega) ?_
      refine zg_4_3 C0 Wd (znBh hb (by omega) (by omega)) (zkBh hb (by omega) (by omega)) zk_139 dX10_latestOf_26 ?_
      have hz7 : zR (zM0 (b + 9 + x0) 3) := Wd.rm _ _
      refine z_goto C0 (tgt := 33) dX10_latestOf_29 (by decide) ?_
      exact z_iret C0 Wd hret hlk hz7 (Or.inl ⟨by omega, ((hR.2.2.2.1 x0 (by omega) (by omega)).2.2.2 (by omega)).symm, rfl, rfl⟩) dX10_latestOf_33
theorem kv_X10_drums : zKV yX10_drums cX10_drums 4 (some .boolean) "DrumWarren$State" 1 := ⟨zk_673, zk_671, zk_672, zk_26, by decide, by decide, by decide +kernel⟩
set_option maxHeartbeats 4000000 in
set_option maxRecDepth 100000 in
theorem ct_X10_drums (l : Launch) (g : zG) (zX : va_W) (ad : Int → Nat) (zM0 zF0 : zMem) (b : Int) (hb : zB b) (V : Int → Int) (zt : Int) (x0 : Int) (hx0 : zR x0) (hR : zRS b V zM0 zF0) (hI : zIV zt V) : zMt l yX10_drums cX10_drums 4 (some .boolean) 0 0 0 g (0, 398, zX) ad [.ref (ad b), .int (zI x0)] zM0 zF0 (zPi (fun r M' F' => zb (zdrm V x0) = r ∧ zM0 = M' ∧ zF0 = F')) := by
  refine zMt.of "DrumWarren$State" rfl (by decide +kernel) (Nat.le_of_ble_eq_true rfl) (fun {p e s m args below meth c ls} C0 Wd hl hret hlk hin => ?_)
  have hl : lv_has ls 4 [(0, .ref (ad b)), (1, .int (zI x0))] := hl
  have h0b := hI.1
  have h1b := hI.2.1
  have h2b := hI.2.2.1
  refine z_iconst C0 dX10_drums_0 ?_
  refine z_istore_n C0 hl [(2, .int (zI 0)), (0, .ref (ad b)), (1, .int (zI x0))] (by decide) rfl dX10_drums_1 (fun ls hl => ?_)
  have aft2 : ∀ (k2 : Nat) (hk2 : (k2 : Int) ≤ (V 2)) (hn : ∀ q, 0 ≤ q → q < (k2 : Int) → ¬ (V (96 + 47 * q + 4) = 100 ∧ V (96 + 47 * q + 1) = x0)) (hx2 : (k2 : Int) = (V 2)) (H : Heap) (locs : List Loc) (ls : Array Slot) (Wd : zW g (zA (0, 398, zX) ad s.heap.size) s.heap (0, 398, zX) ad zM0 zF0 H locs) (hl : lv_has ls 4 [(0, .ref (ad b)), (1, .int (zI x0)), (2, .int (zI (k2 : Int)))]), W p l e (zrm 0 0 0) s m args below meth c H locs 0 0 (zMQ below g (0, 398, zX) ad (zPi (fun r M' F' => zb (zdrm V x0) = r ∧ zM0 = M' ∧ zF0 = F')) args s 0 0) (F0 m 42 ls []) := by
    intro k2 hk2 hn hx2 H locs ls Wd hl
    replace hl : lv_has ls 4 [(0, .ref (ad b)), (1, .int (zI x0))] := lv_sub hl [0, 1] rfl
    refine z_iconst C0 dX10_drums_42 ?_
    exact z_zret C0 Wd hret hlk (by decide) ⟨by rw [zb_f (fun z => by obtain ⟨q, q0, q1, q2⟩ := zany_iff.mp z; exact hn q q0 (by omega) q2)], rfl, rfl⟩ dX10_drums_43
  have lp2 : ∀ (d2 k2 : Nat) (hk2 : (k2 : Int) + d2 = (V 2)) (hn : ∀ q, 0 ≤ q → q < (k2 : Int) → ¬ (V (96 + 47 * q + 4) = 100 ∧ V (96 + 47 * q + 1) = x0)) (H : Heap) (locs : List Loc) (ls : Array Slot) (Wd : zW g (zA (0, 398, zX) ad s.heap.size) s.heap (0, 398, zX) ad zM0 zF0 H locs) (hl : lv_has ls 4 [(0, .ref (ad b)), (1, .int (zI x0)), (2, .int (zI (k2 : Int)))]), W p l e (zrm 0 0 0) s m args below meth c H locs 0 0 (zMQ below g (0, 398, zX) ad (zPi (fun r M' F' => zb (zdrm V x0) = r ∧ zM0 = M' ∧ zF0 = F')) args s 0 0) (F0 m 2 ls []) := by
    intro d2
    induction d2 with
    | zero =>
      intro k2 hk2 hn H locs ls Wd hl
      refine z_iload_n C0 hl 2 rfl dX10_drums_2 ?_
      refine z_aload_n C0 hl 0 rfl dX10_drums_3 ?_
      refine zg_7_4 C0 Wd (znB0 hb) (zkB0 hb) zk_200 dX10_drums_4 ?_
      obtain ⟨he2, hz1⟩ : (zM0 b 4) = (V 2) ∧ zR (V 2) := (fun q => ⟨q, q ▸ Wd.rm _ _⟩) hR.c4
      refine z_top (congrArg zI he2) ?_
      clear he2
      refine z_icmp_ge C0 (tgt := 42) (zR_mk (by omega) (by omega)) hz1 dX10_drums_7 (by decide) (fun c3 => ?_) (fun c3 => ?_)
      · skip
        first | exact aft2 k2 (by omega) hn (by first | assumption | omega) _ _ _ Wd (lv_sub hl [0, 1, 2] rfl) | (exfalso; omega)
      · skip
        exfalso; omega
    | succ d2 ih2 =>
      intro k2 hk2 hn H locs ls Wd hl
      refine z_iload_n C0 hl 2 rfl dX10_drums_2 ?_
      refine z_aload_n C0 hl 0 rfl dX10_drums_3 ?_
      refine zg_7_4 C0 Wd (znB0 hb) (zkB0 hb) zk_200 dX10_drums_4 ?_
      obtain ⟨he5, hz4⟩ : (zM0 b 4) = (V 2) ∧ zR (V 2) := (fun q => ⟨q, q ▸ Wd.rm _ _⟩) hR.c4
      refine z_top (congrArg zI he5) ?_
      clear he5
      refine z_icmp_ge C0 (tgt := 42) (zR_mk (by omega) (by omega)) hz4 dX10_drums_7 (by decide) (fun c6 => ?_) (fun c6 => ?_)
      · skip
        first | exact aft2 k2 (by omega) hn (by first | assumption | omega) _ _ _ Wd (lv_sub hl [0, 1, 2] rfl) | (exfalso; omega)
      · skip
        refine z_aload_n C0 hl 0 rfl dX10_drums_10 ?_
        refine zg_7_3 C0 Wd (znB0 hb) (zkB0 hb) zk_198 dX10_drums_11 ?_
        refine z_iload_n C0 hl 2 rfl dX10_drums_14 ?_
        refine z_aald16 C0 Wd (znB6 hb) (zkB6 hb) (zlB6 hb) (by omega) (by omega) (by decide) dX10_drums_15 ?_
        refine z_astore_n C0 hl [(3, .ref (ad (zF0 (b + 6) (k2 : Int)))), (0, .ref (ad b)), (1, .int (zI x0)), (2, .int (zI (k2 : Int)))] (by decide) rfl dX10_drums_16 (fun ls hl => ?_)
        refine z_aload_n C0 hl 0 rfl dX10_drums_17 ?_
        refine zg_6_4 C0 Wd (znO (hR.mo (by omega) (by omega))) (zkO (hR.mo (by omega) (by omega))) zk_167 dX10_drums_18 ?_
        obtain ⟨he8, hz7⟩ : (zM0 (zF0 (b + 6) (k2 : Int)) 4) = (V (96 + 47 * (k2 : Int) + 4)) ∧ zR (V (96 + 47 * (k2 : Int) + 4)) := (fun q => ⟨q, q ▸ Wd.rm _ _⟩) (hR.m4 (by omega) (by omega))
        refine z_top (congrArg zI he8) ?_
        clear he8
        refine z_bipush C0 dX10_drums_21 (by decide) ?_
        refine z_icmp_ne C0 (tgt := 36) hz7 (zR_mk (by decide) (by decide)) dX10_drums_23 (by decide) (fun c9 => ?_) (fun c9 => ?_)
        · skip
          refine z_iinc C0 hl 3 (t := (k2 : Int)) (u := ((k2 : Int) + 1)) rfl (by omega) [(2, .int (zI ((k2 : Int) + 1))), (3, .ref (ad (zF0 (b + 6) (k2 : Int)))), (0, .ref (ad b)), (1, .int (zI x0))] (by decide) rfl dX10_drums_36 (fun ls hl => ?_)
          refine z_goto C0 (tgt := 2) dX10_drums_39 (by decide) ?_
          exact ih2 (k2 + 1) (by omega) (fun q h0 h1 => by by_cases hq : q = (k2 : Int) <;> first | (rw [hq]; omega) | exact hn q h0 (by omega)) _ _ _ Wd (lv_sub hl [2, 3, 0] rfl)
        · skip
          refine z_aload_n C0 hl 0 rfl dX10_drums_26 ?_
          refine zg_6_1 C0 Wd (znO (hR.mo (by omega) (by omega))) (zkO (hR.mo (by omega) (by omega))) zk_158 dX10_drums_27 ?_
          obtain ⟨he11, hz10⟩ : (zM0 (zF0 (b + 6) (k2 : Int)) 1) = (V (96 + 47 * (k2 : Int) + 1)) ∧ zR (V (96 + 47 * (k2 : Int) + 1)) := (fun q => ⟨q, q ▸ Wd.rm _ _⟩) (hR.m1 (by omega) (by omega))
          refine z_top (congrArg zI he11) ?_
          clear he11
          refine z_iload_n C0 hl 2 rfl dX10_drums_30 ?_
          refine z_icmp_ne C0 (tgt := 36) hz10 hx0 dX10_drums_31 (by decide) (fun c12 => ?_) (fun c12 => ?_)
          · skip
            refine z_iinc C0 hl 3 (t := (k2 : Int)) (u := ((k2 : Int) + 1)) rfl (by omega) [(2, .int (zI ((k2 : Int) + 1))), (3, .ref (ad (zF0 (b + 6) (k2 : Int)))), (0, .ref (ad b)), (1, .int (zI x0))] (by decide) rfl dX10_drums_36 (fun ls hl => ?_)
            refine z_goto C0 (tgt := 2) dX10_drums_39 (by decide) ?_
            exact ih2 (k2 + 1) (by omega) (fun q h0 h1 => by by_cases hq : q = (k2 : Int) <;> first | (rw [hq]; omega) | exact hn q h0 (by omega)) _ _ _ Wd (lv_sub hl [2, 3, 0] rfl)
          · skip
            refine z_iconst C0 dX10_drums_34 ?_
            exact z_zret C0 Wd hret hlk (by decide) ⟨by rw [zb_t (zany_iff.mpr ⟨(k2 : Int), by omega, by omega, by omega, by omega⟩)], rfl, rfl⟩ dX10_drums_35
  exact lp2 ((V 2)).toNat 0 (by omega) (fun q h0 h1 => by omega) _ _ _ Wd (lv_sub hl [1, 2, 0] rfl)
theorem kv_X10_positionOf : zKV yX10_positionOf cX10_positionOf 3 (some .int) "DrumWarren$State" 1 := ⟨zk_897, zk_895, zk_896, zk_26, by decide, by decide, by decide +kernel⟩
set_option maxHeartbeats 4000000 in
set_option maxRecDepth 100000 in
theorem ct_X10_positionOf (l : Launch) (g : zG) (zX : va_W) (ad : Int → Nat) (zM0 zF0 : zMem) (b : Int) (hb : zB b) (V : Int → Int) (zt : Int) (x0 : Int) (hx0 : zR x0) (hR : zRS b V zM0 zF0) (hI : zIV zt V) (hu : ∀ p q, 0 ≤ p → p < q → q < V 2 → V (96 + 47 * p + 0) ≠ V (96 + 47 * q + 0)) : zMt l yX10_positionOf cX10_positionOf 3 (some .int) 0 0 0 g (0, 398, zX) ad [.ref (ad b), .int (zI x0)] zM0 zF0 (zPi (fun r M' F' => zpl x0 V = r ∧ zM0 = M' ∧ zF0 = F')) := by
  refine zMt.of "DrumWarren$State" rfl (by decide +kernel) (Nat.le_of_ble_eq_true rfl) (fun {p e s m args below meth c ls} C0 Wd hl hret hlk hin => ?_)
  have hl : lv_has ls 3 [(0, .ref (ad b)), (1, .int (zI x0))] := hl
  have h0b := hI.1
  have h1b := hI.2.1
  have h2b := hI.2.2.1
  refine z_iconst C0 dX10_positionOf_0 ?_
  refine z_istore_n C0 hl [(2, .int (zI 0)), (0, .ref (ad b)), (1, .int (zI x0))] (by decide) rfl dX10_positionOf_1 (fun ls hl => ?_)
  have aft2 : ∀ (k2 : Nat) (hk2 : (k2 : Int) ≤ (V 2)) (hn : ∀ q, 0 ≤ q → q < (k2 : Int) → ¬ V (96 + 47 * q + 0) = x0) (hx2 : (k2 : Int) = (V 2)) (H : Heap) (locs : List Loc) (ls : Array Slot) (Wd : zW g (zA (0, 398, zX) ad s.heap.size) s.heap (0, 398, zX) ad zM0 zF0 H locs) (hl : lv_has ls 3 [(0, .ref (ad b)), (1, .int (zI x0)), (2, .int (zI (k2 : Int)))]), W p l e (zrm 0 0 0) s m args below meth c H locs 0 0 (zMQ below g (0, 398, zX) ad (zPi (fun r M' F' => zpl x0 V = r ∧ zM0 = M' ∧ zF0 = F')) args s 0 0) (F0 m 31 ls []) := by
    intro k2 hk2 hn hx2 H locs ls Wd hl
    replace hl : lv_has ls 3 [(0, .ref (ad b)), (1, .int (zI x0))] := lv_sub hl [0, 1] rfl
    refine z_iconst C0 dX10_positionOf_31 ?_
    exact z_iret C0 Wd hret hlk (zR_mk (by decide) (by decide)) ⟨zpl_is0 (fun q h0 h1 => hn q h0 (by omega)), rfl, rfl⟩ dX10_positionOf_32
  have lp2 : ∀ (d2 k2 : Nat) (hk2 : (k2 : Int) + d2 = (V 2)) (hn : ∀ q, 0 ≤ q → q < (k2 : Int) → ¬ V (96 + 47 * q + 0) = x0) (H : Heap) (locs : List Loc) (ls : Array Slot) (Wd : zW g (zA (0, 398, zX) ad s.heap.size) s.heap (0, 398, zX) ad zM0 zF0 H locs) (hl : lv_has ls 3 [(0, .ref (ad b)), (1, .int (zI x0)), (2, .int (zI (k2 : Int)))]), W p l e (zrm 0 0 0) s m args below meth c H locs 0 0 (zMQ below g (0, 398, zX) ad (zPi (fun r M' F' => zpl x0 V = r ∧ zM0 = M' ∧ zF0 = F')) args s 0 0) (F0 m 2 ls []) := by
    intro d2
    induction d2 with
    | zero =>
      intro k2 hk2 hn H locs ls Wd hl
      refine z_iload_n C0 hl 2 rfl dX10_positionOf_2 ?_
      refine z_aload_n C0 hl 0 rfl dX10_positionOf_3 ?_
      refine zg_7_4 C0 Wd (znB0 hb) (zkB0 hb) zk_200 dX10_positionOf_4 ?_
      obtain ⟨he2, hz1⟩ : (zM0 b 4) = (V 2) ∧ zR (V 2) := (fun q => ⟨q, q ▸ Wd.rm _ _⟩) hR.c4
      refine z_top (congrArg zI he2) ?_
      clear he2
      refine z_icmp_ge C0 (tgt := 31) (zR_mk (by omega) (by omega)) hz1 dX10_positionOf_7 (by decide) (fun c3 => ?_) (fun c3 => ?_)
      · skip
        first | exact aft2 k2 (by omega) hn (by first | assumption | omega) _ _ _ Wd (lv_sub hl [0, 1, 2] rfl) | (exfalso; omega)
      · skip
        exfalso; omega
    | succ d2 ih2 =>
      intro k2 hk2 hn H locs ls Wd hl
      refine z_iload_n C0 hl 2 rfl dX10_positionOf_2 ?_
      refine z_aload_n C0 hl 0 rfl dX10_positionOf_3 ?_
      refine zg_7_4 C0 Wd (znB0 hb) (zkB0 hb) zk_200 dX10_positionOf_4 ?_
      obtain ⟨he5, hz4⟩ : (zM0 b 4) = (V 2) ∧ zR (V 2) := (fun q => ⟨q, q ▸ Wd.rm _ _⟩) hR.c4
      refine z_top (congrArg zI he5) ?_
      clear he5
      refine z_icmp_ge C0 (tgt := 31) (zR_mk (by omega) (by omega)) hz4 dX10_positionOf_7 (by decide) (fun c6 => ?_) (fun c6 => ?_)
      · skip
        first | exact aft2 k2 (by omega) hn (by first | assumption | omega) _ _ _ Wd (lv_sub hl [0, 1, 2] rfl) | (exfalso; omega)
      · skip
        refine z_aload_n C0 hl 0 rfl dX10_positionOf_10 ?_
        refine zg_7_3 C0 Wd (znB0 hb) (zkB0 hb) zk_198 dX10_positionOf_11 ?_
        refine z_iload_n C0 hl 2 rfl dX10_positionOf_14 ?_
        refine z_aald16 C0 Wd (znB6 hb) (zkB6 hb) (zlB6 hb) (by omega) (by omega) (by decide) dX10_positionOf_15 ?_
        refine zg_6_0 C0 Wd (znO (hR.mo (by omega) (by omega))) (zkO (hR.mo (by omega) (by omega))) zk_155 dX10_positionOf_16 ?_
        obtain ⟨he8, hz7⟩ : (zM0 (zF0 (b + 6) (k2 : Int)) 0) = (V (96 + 47 * (k2 : Int) + 0)) ∧ zR (V (96 + 47 * (k2 : Int) + 0)) := (fun q => ⟨q, q ▸ Wd.rm _ _⟩) (hR.m0 (by omega) (by omega))
        refine z_top (congrArg zI he8) ?_
        clear he8
        refine z_iload_n C0 hl 1 rfl dX10_positionOf_19 ?_
        refine z_icmp_ne C0 (tgt := 25) hz7 hx0 dX10_positionOf_20 (by decide) (fun c9 => ?_) (fun c9 => ?_)
        · skip
          refine z_iinc C0 hl 2 (t := (k2 : Int)) (u := ((k2 : Int) + 1)) rfl (by omega) [(2, .int (zI ((k2 : Int) + 1))), (0, .ref (ad b)), (1, .int (zI x0))] (by decide) rfl dX10_positionOf_25 (fun ls hl => ?_)
          refine z_goto C0 (tgt := 2) dX10_positionOf_28 (by decide) ?_
          exact ih2 (k2 + 1) (by omega) (fun q h0 h1 => by by_cases hq : q = (k2 : Int) <;> first | (rw [hq]; omega) | exact hn q h0 (by omega)) _ _ _ Wd (lv_sub hl [1, 2, 0] rfl)
        · skip
          refine z_iload_n C0 hl 2 rfl dX10_positionOf_23 ?_
          exact z_iret C0 Wd hret hlk (zR_mk (by omega) (by omega)) ⟨zpl_is1 hu (by omega) (by omega) (by omega), rfl, rfl⟩ dX10_positionOf_24
  exact lp2 ((V 2)).toNat 0 (by omega) (fun q h0 h1 => by omega) _ _ _ Wd (lv_sub hl [1, 2, 0] rfl)
theorem kv_X10_isDelivered : zKV yX10_isDelivered cX10_isDelivered 2 (some .boolean) "DrumWarren$State" 1 := ⟨zk_1370, zk_1368, zk_1369, zk_26, by decide, by decide, by decide +kernel⟩
set_option maxHeartbeats 4000000 in
set_option maxRecDepth 100000 in
theorem ct_X10_isDelivered (l : Launch) (g : zG) (zX : va_W) (ad : Int → Nat) (zM0 zF0 : zMem) (b : Int) (hb : zB b) (V : Int → Int) (zt : Int) (x0 : Int) (hx0 : zR x0) (hR : zRS b V zM0 zF0) (hI : zIV zt V) : zMt l yX10_isDelivered cX10_isDelivered 2 (some .boolean) 0 0 0 g (0, 398, zX) ad [.ref (ad b), .int (zI x0)] zM0 zF0 (zPi (fun r M' F' => zb ((0 ≤ x0 ∧ x0 < V 2) ∧ V (96 + 47 * x0 + 4) = 114) = r ∧ zM0 = M' ∧ zF0 = F')) := by
  refine zMt.of "DrumWarren$State" rfl (by decide +kernel) (Nat.le_of_ble_eq_true rfl) (fun {p e s m args below meth c ls} C0 Wd hl hret hlk hin => ?_)
  have hl : lv_has ls 2 [(0, .ref (ad b)), (1, .int (zI x0))] := hl
  have h0b := hI.1
  have h1b := hI.2.1
  have h2b := hI.2.2.1
  refine z_iload_n C0 hl 1 rfl dX10_isDelivered_0 ?_
  refine z_if_lt C0 (tgt := 30) hx0 dX10_isDelivered_1 (by decide) (fun c1 => ?_) (fun c1 => ?_)
  · skip
    refine z_iconst C0 dX10_isDelivered_30 ?_
    exact z_zret C0 Wd hret hlk (by decide) ⟨by first | (rw [zb_t (by omega)]; done) | (rw [zb_f (by omega)]; done), rfl, rfl⟩ dX10_isDelivered_31
  · skip
    refine z_iload_n C0 hl 1 rfl dX10_isDelivered_4 ?_
    refine z_aload_n C0 hl 0 rfl dX10_isDelivered_5 ?_
    refine zg_7_4 C0 Wd (znB0 hb) (zkB0 hb) zk_200 dX10_isDelivered_6 ?_
    obtain ⟨he3, hz2⟩ : (zM0 b 4) = (V 2) ∧ zR (V 2) := (fun q => ⟨q, q ▸ Wd.rm _ _⟩) hR.c4
    refine z_top (congrArg zI he3) ?_
    clear he3
    refine z_icmp_ge C0 (tgt := 30) hx0 hz2 dX10_isDelivered_9 (by decide) (fun c4 => ?_) (fun c4 => ?_)
    · skip
      refine z_iconst C0 dX10_isDelivered_30 ?_
      exact z_zret C0 Wd hret hlk (by decide) ⟨by first | (rw [zb_t (by omega)]; done) | (rw [zb_f (by omega)]; done), rfl, rfl⟩ dX10_isDelivered_31
    · skip
      refine z_aload_n C0 hl 0 rfl dX10_isDelivered_12 ?_
      refine zg_7_3 C0 Wd (znB0 hb) (zkB0 hb) zk_198 dX10_isDelivered_13 ?_
      refine z_iload_n C0 hl 1 rfl dX10_isDelivered_16 ?_
      refine z_aald16 C0 Wd (znB6 hb) (zkB6 hb) (zlB6 hb) (by omega) (by omega) (by decide) dX10_isDelivered_17 ?_
      refine zg_6_4 C0 Wd (znO (hR.mo (by omega) (by omega))) (zkO (hR.mo (by omega) (by omega))) zk_167 dX10_isDelivered_18 ?_
      obtain ⟨he6, hz5⟩ : (zM0 (zF0 (b + 6) x0) 4) = (V (96 + 47 * x0 + 4)) ∧ zR (V (96 + 47 * x0 + 4)) := (fun q => ⟨q, q ▸ Wd.rm _ _⟩) (hR.m4 (by omega) (by omega))
      refine z_top (congrArg zI he6) ?_
      clear he6
      refine z_bipush C0 dX10_isDelivered_21 (by decide) ?_
      refine z_icmp_ne C0 (tgt := 30) hz5 (zR_mk (by decide) (by decide)) dX10_isDelivered_23 (by decide) (fun c7 => ?_) (fun c7 => ?_)
      · skip
        refine z_iconst C0 dX10_isDelivered_30 ?_
        exact z_zret C0 Wd hret hlk (by decide) ⟨by first | (rw [zb_t (by omega)]; done) | (rw [zb_f (by omega)]; done), rfl, rfl⟩ dX10_isDelivered_31
      · skip
        refine z_iconst C0 dX10_isDelivered_26 ?_
        refine z_goto C0 (tgt := 31) dX10_isDelivered_27 (by decide) ?_
        exact z_zret C0 Wd hret hlk (by decide) ⟨by first | (rw [zb_t (by omega)]; done) | (rw [zb_f (by omega)]; done), rfl, rfl⟩ dX10_isDelivered_31
theorem kv_X10_firstIn : zKV yX10_firstIn cX10_firstIn 5 (some .int) "DrumWarren$State" 2 := ⟨zk_696, zk_695, zk_5, zk_26, by decide, by decide, by decide +kernel⟩
set_option maxHeartbeats 4000000 in
set_option maxRecDepth 100000 in
theorem ct_X10_firstIn (l : Launch) (g : zG) (zX : va_W) (ad : Int → Nat) (zM0 zF0 : zMem) (b : Int) (hb : zB b) (V : Int → Int) (zt : Int) (x0 : Int) (hx0 : zR x0) (x1 : Int) (hx1 : zR x1) (hR : zRS b V zM0 zF0) (hI : zIV zt V) : zMt l yX10_firstIn cX10_firstIn 5 (some .int) 2 0 0 g (0, 398, zX) ad [.ref (ad b), .int (zI x0), .int (zI x1)] zM0 zF0 (zPi (fun r M' F' => (∃ r1 : Int, (zF1 (fun q => (V (72 + 4 * V (96 + 47 * q + 1) + 0) = x0 ∧ V (96 + 47 * q + 4) = x1)) 0 (V 2) r1) ∧ r1 = r ∧ zM0 = M' ∧ zF0 = F'))) := by
  refine zMt.of "DrumWarren$State" rfl (by decide +kernel) (Nat.le_of_ble_eq_true rfl) (fun {p e s m args below meth c ls} C0 Wd hl hret hlk hin => ?_)
  have hl : lv_has ls 5 [(0, .ref (ad b)), (1, .int (zI x0)), (2, .int (zI x1))] := hl
  have h0b := hI.1
  have h1b := hI.2.1
  have h2b := hI.2.2.1
  refine z_iconst C0 dX10_firstIn_0 ?_
  refine z_istore_n C0 hl [(3, .int (zI 0)), (0, .ref (ad b)), (1, .int (zI x0)), (2, .int (zI x1))] (by decide) rfl dX10_firstIn_1 (fun ls hl => ?_)
  have aft2 : ∀ (k2 : Nat) (hk2 : (k2 : Int) ≤ (V 2)) (hn : ∀ q, 0 ≤ q → q < (k2 : Int) → ¬ (V (72 + 4 * V (96 + 47 * q + 1) + 0) = x0 ∧ V (96 + 47 * q + 4) = x1)) (hx2 : (k2 : Int) = (V 2)) (H : Heap) (locs : List Loc) (ls : Array Slot) (Wd : zW g (zA (0, 398, zX) ad s.heap.size) s.heap (0, 398, zX) ad zM0 zF0 H locs) (hl : lv_has ls 5 [(0, .ref (ad b)), (1, .int (zI x0)), (2, .int (zI x1)), (3, .int (zI (k2 : Int)))]), W p l e (zrm 2 0 0) s m args below meth c H locs 0 0 (zMQ below g (0, 398, zX) ad (zPi (fun r M' F' => (∃ r1 : Int, (zF1 (fun q => (V (72 + 4 * V (96 + 47 * q + 1) + 0) = x0 ∧ V (96 + 47 * q + 4) = x1)) 0 (V 2) r1) ∧ r1 = r ∧ zM0 = M' ∧ zF0 = F'))) args s 0 0) (F0 m 48 ls []) := by
    intro k2 hk2 hn hx2 H locs ls Wd hl
    replace hl : lv_has ls 5 [(0, .ref (ad b)), (1, .int (zI x0)), (2, .int (zI x1))] := lv_sub hl [0, 1, 2] rfl
    refine z_iconst C0 dX10_firstIn_48 ?_
    exact z_iret C0 Wd hret hlk (zR_mk (by decide) (by decide)) ⟨_, Or.inl ⟨rfl, fun q h0 h1 => hn q h0 (by omega)⟩, rfl, rfl, rfl⟩ dX10_firstIn_49
  have lp2 : ∀ (d2 k2 : Nat) (hk2 : (k2 : Int) + d2 = (V 2)) (hn : ∀ q, 0 ≤ q → q < (k2 : Int) → ¬ (V (72 + 4 * V (96 + 47 * q + 1) + 0) = x0 ∧ V (96 + 47 * q + 4) = x1)) (H : Heap) (locs : List Loc) (ls : Array Slot) (Wd : zW g (zA (0, 398, zX) ad s.heap.size) s.heap (0, 398, zX) ad zM0 zF0 H locs) (hl : lv_has ls 5 [(0, .ref (ad b)), (1, .int (zI x0)), (2, .int (zI x1)), (3, .int (zI (k2 : Int)))]), W p l e (zrm 2 0 0) s m args below meth c H locs 0 0 (zMQ below g (0, 398, zX) ad (zPi (fun r M' F' => (∃ r1 : Int, (zF1 (fun q => (V (72 + 4 * V (96 + 47 * q + 1) + 0) = x0 ∧ V (96 + 47 * q + 4) = x1)) 0 (V 2) r1) ∧ r1 = r ∧ zM0 = M' ∧ zF0 = F'))) args s 0 0) (F0 m 2 ls []) := by
    intro d2
    induction d2 with
    | zero =>
      intro k2 hk2 hn H locs ls Wd hl
      have hm1 := fun h0 h1 => (hI.2.2.2.2.2.2.1 (k2 : Int) h0 h1).2.1
      refine z_iload_n C0 hl 3 rfl dX10_firstIn_2 ?_
      refine z_aload_n C0 hl 0 rfl dX10_firstIn_3 ?_
      refine zg_7_4 C0 Wd (znB0 hb) (zkB0 hb) zk_200 dX10_firstIn_4 ?_
      obtain ⟨he2, hz1⟩ : (zM0 b 4) = (V 2) ∧ zR (V 2) := (fun q => ⟨q, q ▸ Wd.rm _ _⟩) hR.c4
      refine z_top (congrArg zI he2) ?_
      clear he2
      refine z_icmp_ge C0 (tgt := 48) (zR_mk (by omega) (by omega)) hz1 dX10_firstIn_7 (by decide) (fun c3 => ?_) (fun c3 => ?_)
      · skip
        first | exact aft2 k2 (by omega) hn (by first | assumption | omega) _ _ _ Wd (lv_sub hl [0, 1, 2, 3] rfl) | (exfalso; omega)
      · skip
        exfalso; omega
    | succ d2 ih2 =>
      intro k2 hk2 hn H locs ls Wd hl
      have hm1 := fun h0 h1 => (hI.2.2.2.2.2.2.1 (k2 : Int) h0 h1).2.1
      refine z_iload_n C0 hl 3 rfl dX10_firstIn_2 ?_
      refine z_aload_n C0 hl 0 rfl dX10_firstIn_3 ?_
      refine zg_7_4 C0 Wd (znB0 hb) (zkB0 hb) zk_200 dX10_firstIn_4 ?_
      obtain ⟨he5, hz4⟩ : (zM0 b 4) = (V 2) ∧ zR (V 2) := (fun q => ⟨q, q ▸ Wd.rm _ _⟩) hR.c4
      refine z_top (congrArg zI he5) ?_
      clear he5
      refine z_icmp_ge C0 (tgt := 48) (zR_mk (by omega) (by omega)) hz4 dX10_firstIn_7 (by decide) (fun c6 => ?_) (fun c6 => ?_)
      · skip
        first | exact aft2 k2 (by omega) hn (by first | assumption | omega) _ _ _ Wd (lv_sub hl [0, 1, 2, 3] rfl) | (exfalso; omega)
      · skip
        refine z_aload_n C0 hl 0 rfl dX10_firstIn_10 ?_
        refine zg_7_3 C0 Wd (znB0 hb) (zkB0 hb) zk_198 dX10_firstIn_11 ?_
        refine z_iload_n C0 hl 3 rfl dX10_firstIn_14 ?_
        refine z_aald16 C0 Wd (znB6 hb) (zkB6 hb) (zlB6 hb) (by omega) (by omega) (by decide) dX10_firstIn_15 ?_
        refine z_astore C0 hl [(4, .ref (ad (zF0 (b + 6) (k2 : Int)))), (0, .ref (ad b)), (1, .int (zI x0)), (2, .int (zI x1)), (3, .int (zI (k2 : Int)))] (by decide) rfl dX10_firstIn_16 (fun ls hl => ?_)
        refine z_aload C0 hl 0 rfl dX10_firstIn_18 ?_
        refine zg_6_4 C0 Wd (znO (hR.mo (by omega) (by omega))) (zkO (hR.mo (by omega) (by omega))) zk_167 dX10_firstIn_20 ?_
        obtain ⟨he8, hz7⟩ : (zM0 (zF0 (b + 6) (k2 : Int)) 4) = (V (96 + 47 * (k2 : Int) + 4)) ∧ zR (V (96 + 47 * (k2 : Int) + 4)) := (fun q => ⟨q, q ▸ Wd.rm _ _⟩) (hR.m4 (by omega) (by omega))
        refine z_top (congrArg zI he8) ?_
        clear he8
        refine z_iload_n C0 hl 3 rfl dX10_firstIn_23 ?_
        refine z_icmp_ne C0 (tgt := 42) hz7 hx1 dX10_firstIn_24 (by decide) (fun c9 => ?_) (fun c9 => ?_)
        · skip
          refine z_iinc C0 hl 4 (t := (k2 : Int)) (u := ((k2 : Int) + 1)) rfl (by omega) [(3, .int (zI ((k2 : Int) + 1))), (4, .ref (ad (zF0 (b + 6) (k2 : Int)))), (0, .ref (ad b)), (1, .int (zI x0)), (2, .int (zI x1))] (by decide) rfl dX10_firstIn_42 (fun ls hl => ?_)
          refine z_goto C0 (tgt := 2) dX10_firstIn_45 (by decide) ?_
          exact ih2 (k2 + 1) (by omega) (fun q h0 h1 => by by_cases hq : q = (k2 : Int) <;> first | (rw [hq]; omega) | exact hn q h0 (by omega)) _ _ _ Wd (lv_sub hl [2, 3, 4, 0] rfl)
        · skip
          refine z_aload_n C0 hl 1 rfl dX10_firstIn_27 ?_
          refine z_aload C0 hl 0 rfl dX10_firstIn_28 ?_
          refine zg_6_1 C0 Wd (znO (hR.mo (by omega) (by omega))) (zkO (hR.mo (by omega) (by omega))) zk_158 dX10_firstIn_30 ?_
          obtain ⟨he11, hz10⟩ : (zM0 (zF0 (b + 6) (k2 : Int)) 1) = (V (96 + 47 * (k2 : Int) + 1)) ∧ zR (V (96 + 47 * (k2 : Int) + 1)) := (fun q => ⟨q, q ▸ Wd.rm _ _⟩) (hR.m1 (by omega) (by omega))
          refine z_top (congrArg zI he11) ?_
          clear he11
          have hm2 := hm1 (by omega) (by omega)
          refine z_invVi (As := [.int (zI (V (96 + 47 * (k2 : Int) + 1)))]) (rest := []) C0 Wd (ct_X10_placeOf l g zX ad zM0 zF0 b hb V zt (V (96 + 47 * (k2 : Int) + 1)) hz10 hR hI) kv_X10_placeOf (znB0 hb) (zE_7 (zkB0 hb)) rfl zk_697 rfl hl.1 rfl (Nat.le_of_ble_eq_true rfl) (by decide) (by decide) dX10_firstIn_33 (fun r12 zMr12 zFr12 H locs hrr12 hp Wd => ?_)
          rcases hp with ⟨hr12_0_0, rfl, rfl, rfl⟩ | ⟨hr12_1_0, rfl, rfl, rfl⟩
          · skip
            refine z_iload_n C0 hl 2 rfl dX10_firstIn_36 ?_
            refine z_icmp_ne C0 (tgt := 42) hrr12 hx0 dX10_firstIn_37 (by decide) (fun c14 => ?_) (fun c14 => ?_)
            · skip
              refine z_iinc C0 hl 4 (t := (k2 : Int)) (u := ((k2 : Int) + 1)) rfl (by omega) [(3, .int (zI ((k2 : Int) + 1))), (4, .ref (ad (zF0 (b + 6) (k2 : Int)))), (0, .ref (ad b)), (1, .int (zI x0)), (2, .int (zI x1))] (by decide) rfl dX10_firstIn_42 (fun ls hl => ?_)
              refine z_goto C0 (tgt := 2) dX10_firstIn_45 (by decide) ?_
              exact ih2 (k2 + 1) (by omega) (fun q h0 h1 => by by_cases hq : q = (k2 : Int) <;> first | (rw [hq]; omega) | exact hn q h0 (by omega)) _ _ _ Wd (lv_sub hl [2, 3, 4, 0] rfl)
            · skip
              refine z_iload_n C0 hl 4 rfl dX10_firstIn_40 ?_
              exact z_iret C0 Wd hret hlk (zR_mk (by omega) (by omega)) ⟨_, Or.inr ⟨by omega, by omega, ⟨by omega, by omega⟩, fun q h0 h1 => hn q h0 h1⟩, rfl, rfl, rfl⟩ dX10_firstIn_41
          · skip
            exfalso; omega
  exact lp2 ((V 2)).toNat 0 (by omega) (fun q h0 h1 => by omega) _ _ _ Wd (lv_sub hl [1, 2, 3, 0] rfl)
