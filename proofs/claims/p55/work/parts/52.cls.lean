/-! the class: a thump -/
theorem kv_X1_openTick : zKV yX1_openTick cX1_openTick 3 none "DrumWarren$Air" 1 := ⟨zk_769, zk_767, zk_768, zk_28, by decide, by decide, by decide +kernel⟩
set_option maxHeartbeats 4000000 in
set_option maxRecDepth 100000 in
theorem ct_X1_openTick (l : Launch) (g : zG) (zX : va_W) (ad : Int → Nat) (zM0 zF0 : zMem) (b : Int) (hb : zB b) (x0 : Int) (hx0 : zR x0) : zMt l yX1_openTick cX1_openTick 3 none 0 0 0 g (0, 398, zX) ad [.ref (ad (b + 7)), .int (zI x0)] zM0 zF0 (zPv (fun M' F' => (∃ w : Int → Int, (∀ c x, zc8 c → 0 ≤ x → x < 128 → w (128 * c + x) = if x = x0 % 128 then 0 else zM0 (b + 8) (128 * c + x)) ∧ (zrow zM0 (b + 8) w) = M' ∧ zF0 = F'))) := by
  refine zMt.of "DrumWarren$Air" rfl (by decide +kernel) (Nat.le_of_ble_eq_true rfl) (fun {p e s m args below meth c ls} C0 Wd hl hret hlk hin => ?_)
  have hl : lv_has ls 3 [(0, .ref (ad (b + 7))), (1, .int (zI x0))] := hl
  refine z_iconst C0 dX1_openTick_0 ?_
  refine z_istore_n C0 hl [(2, .int (zI 0)), (0, .ref (ad (b + 7))), (1, .int (zI x0))] (by decide) rfl dX1_openTick_1 (fun ls hl => ?_)
  have aft2 : ∀ (k2 : Nat) (hk2 : (k2 : Int) ≤ 8) (v2 : Int → Int) (hv : ∀ c x, zc8 c → 0 ≤ x → x < 128 → v2 (128 * c + x) = if c < (k2 : Int) ∧ x = x0 % 128 then 0 else zM0 (b + 8) (128 * c + x)) (hx2 : (k2 : Int) = 8) (H : Heap) (locs : List Loc) (ls : Array Slot) (Wd : zW g (zA (0, 398, zX) ad s.heap.size) s.heap (0, 398, zX) ad (zrow zM0 (b + 8) v2) zF0 H locs) (hl : lv_has ls 3 [(0, .ref (ad (b + 7))), (1, .int (zI x0)), (2, .int (zI (k2 : Int)))]), W p l e (zrm 0 0 0) s m args below meth c H locs 0 0 (zMQ below g (0, 398, zX) ad (zPv (fun M' F' => (∃ w : Int → Int, (∀ c x, zc8 c → 0 ≤ x → x < 128 → w (128 * c + x) = if x = x0 % 128 then 0 else zM0 (b + 8) (128 * c + x)) ∧ (zrow zM0 (b + 8) w) = M' ∧ zF0 = F'))) args s 0 0) (F0 m 30 ls []) := by
    intro k2 hk2 v2 hv hx2 H locs ls Wd hl
    replace hl : lv_has ls 3 [(0, .ref (ad (b + 7))), (1, .int (zI x0))] := lv_sub hl [0, 1] rfl
    obtain rfl : k2 = 8 := by omega
    exact z_vret C0 Wd hret hlk ⟨_, fun c x hc h0 h1 => by have := hc.1; have := hc.2; rw [hv c x hc h0 h1]; by_cases e : x = x0 % 128 <;> first | (rw [if_pos e, if_pos ⟨by omega, e⟩]; done) | (rw [if_neg e, if_neg (fun z => e z.2)]; done), rfl, rfl⟩ dX1_openTick_30
  have lp2 : ∀ (d2 k2 : Nat) (hk2 : (k2 : Int) + d2 = 8) (v2 : Int → Int) (hv : ∀ c x, zc8 c → 0 ≤ x → x < 128 → v2 (128 * c + x) = if c < (k2 : Int) ∧ x = x0 % 128 then 0 else zM0 (b + 8) (128 * c + x)) (H : Heap) (locs : List Loc) (ls : Array Slot) (Wd : zW g (zA (0, 398, zX) ad s.heap.size) s.heap (0, 398, zX) ad (zrow zM0 (b + 8) v2) zF0 H locs) (hl : lv_has ls 3 [(0, .ref (ad (b + 7))), (1, .int (zI x0)), (2, .int (zI (k2 : Int)))]), W p l e (zrm 0 0 0) s m args below meth c H locs 0 0 (zMQ below g (0, 398, zX) ad (zPv (fun M' F' => (∃ w : Int → Int, (∀ c x, zc8 c → 0 ≤ x → x < 128 → w (128 * c + x) = if x = x0 % 128 then 0 else zM0 (b + 8) (128 * c + x)) ∧ (zrow zM0 (b + 8) w) = M' ∧ zF0 = F'))) args s 0 0) (F0 m 2 ls []) := by
    intro d2
    induction d2 with
    | zero =>
      intro k2 hk2 v2 hv H locs ls Wd hl
      refine z_iload_n C0 hl 2 rfl dX1_openTick_2 ?_
      refine z_bipush C0 dX1_openTick_3 (by decide) ?_
      refine z_icmp_ge C0 (tgt := 30) (zR_mk (by omega) (by omega)) (zR_mk (by decide) (by decide)) dX1_openTick_5 (by decide) (fun c1 => ?_) (fun c1 => ?_)
      · skip
        first | exact aft2 k2 (by omega) v2 hv (by first | assumption | omega) _ _ _ Wd (lv_sub hl [0, 1, 2] rfl) | (exfalso; omega)
      · skip
        exfalso; omega
    | succ d2 ih2 =>
      intro k2 hk2 v2 hv H locs ls Wd hl
      refine z_iload_n C0 hl 2 rfl dX1_openTick_2 ?_
      refine z_bipush C0 dX1_openTick_3 (by decide) ?_
      refine z_icmp_ge C0 (tgt := 30) (zR_mk (by omega) (by omega)) (zR_mk (by decide) (by decide)) dX1_openTick_5 (by decide) (fun c2 => ?_) (fun c2 => ?_)
      · skip
        first | exact aft2 k2 (by omega) v2 hv (by first | assumption | omega) _ _ _ Wd (lv_sub hl [0, 1, 2] rfl) | (exfalso; omega)
      · skip
        refine z_aload_n C0 hl 0 rfl dX1_openTick_8 ?_
        refine zg_0_0 C0 Wd (znB7 hb) (zkB7 hb) zk_123 dX1_openTick_9 ?_
        refine z_rf (show ((b + 7) + 1) = (b + 8) by omega) ?_
        refine z_iload_n C0 hl 2 rfl dX1_openTick_12 ?_
        refine z_sipush C0 dX1_openTick_13 (by decide) ?_
        refine z_imul C0 dX1_openTick_16 ?_
        refine z_iload_n C0 hl 1 rfl dX1_openTick_17 ?_
        refine z_bipush C0 dX1_openTick_18 (by decide) ?_
        refine z_iand C0 (v := (x0 % 128)) (zI_and127 hx0) dX1_openTick_20 ?_
        refine z_iadd C0 dX1_openTick_21 ?_
        refine z_iconst C0 dX1_openTick_22 ?_
        refine z_iast C0 Wd (znB8 hb) (zkB8 hb) (zlB8 hb) (by omega) (by omega) (by decide) (zR_mk (by decide) (by decide)) dX1_openTick_23 (fun H locs Wd => ?_)
        refine z_iinc C0 hl 2 (t := (k2 : Int)) (u := ((k2 : Int) + 1)) rfl (by omega) [(2, .int (zI ((k2 : Int) + 1))), (0, .ref (ad (b + 7))), (1, .int (zI x0))] (by decide) rfl dX1_openTick_24 (fun ls hl => ?_)
        refine z_goto C0 (tgt := 2) dX1_openTick_27 (by decide) ?_
        exact ih2 (k2 + 1) (by omega) (zup v2 (((k2 : Int) * 128) + (x0 % 128)) 0) (fun c x hc h0 h1 => by have := hc.1; have := hc.2; by_cases e : 128 * c + x = (k2 : Int) * 128 + x0 % 128 <;> first | (rw [zup_at e, if_pos (by omega)]; done) | (rw [zup_ne e, hv c x hc h0 h1]; by_cases e2 : c < (k2 : Int) ∧ x = x0 % 128 <;> first | (rw [if_pos e2, if_pos (show c < ((k2 + 1 : Nat) : Int) ∧ x = x0 % 128 by omega)]; done) | (rw [if_neg e2, if_neg (show ¬ (c < ((k2 + 1 : Nat) : Int) ∧ x = x0 % 128) by omega)]; done))) _ _ _ (by rw [← zu_zrow]; exact Wd) (lv_sub hl [1, 2, 0] rfl)
  exact lp2 8 0 (by omega) (zM0 (b + 8)) (fun c x hc h0 h1 => by have := hc.1; rw [if_neg (by omega)]) _ _ _ (by rw [zrow_eta]; exact Wd) (lv_sub hl [1, 2, 0] rfl)
theorem kv_X10_thump : zKV yX10_thump cX10_thump 5 none "DrumWarren$State" 1 := ⟨zk_721, zk_720, zk_7, zk_26, by decide, by decide, by decide +kernel⟩
set_option maxHeartbeats 4000000 in
set_option maxRecDepth 100000 in
theorem ct_X10_thump (l : Launch) (g : zG) (zX : va_W) (ad : Int → Nat) (zM0 zF0 : zMem) (b : Int) (hb : zB b) (V : Int → Int) (zt : Int) (pp : Int) (hR : zRS b V zM0 zF0) (hI : zIV zt V) (hp : 0 ≤ pp ∧ pp < V 2) (hd : V (96 + 47 * pp + 6) ≤ 4) (ht : zt ≤ 100000000) : zMt l yX10_thump cX10_thump 5 none 3 0 0 g (0, 398, zX) ad [.ref (ad b), .ref (ad (zF0 (b + 6) pp))] zM0 zF0 (zPv (fun M' F' => (∃ w1 : Int → Int, ∃ w2 : Int → Int, (∀ q c, 0 ≤ q → q < 5 → zc8 c → w1 (8 * q + c) = if q = V (96 + 47 * pp + 6) then (if zdl V (zhm V pp) c < 1000 then V 4 + zdl V (zhm V pp) c else -1) else zM0 (zF0 (b + 6) pp + 1) (8 * q + c)) ∧ (∀ c x, zc8 c → 0 ≤ x → x < 128 → w2 (128 * c + x) = zM0 (b + 8) (128 * c + x) + (if zdl V (zhm V pp) c < 1000 ∧ x = (V 4 + zdl V (zhm V pp) c) % 128 then 1 else 0)) ∧ (zu (zrow (zrow zM0 (zF0 (b + 6) pp + 1) w1) (b + 8) w2) b 8 (V 5 + 1)) = M' ∧ zF0 = F'))) := by
  refine zMt.of "DrumWarren$State" rfl (by decide +kernel) (Nat.le_of_ble_eq_true rfl) (fun {p e s m args below meth c ls} C0 Wd hl hret hlk hin => ?_)
  have hl : lv_has ls 5 [(0, .ref (ad b)), (1, .ref (ad (zF0 (b + 6) pp)))] := hl
  have h0b := hI.1
  have h1b := hI.2.1
  have h2b := hI.2.2.1
  have hTb := hI.2.2.2.2.1
  have hbb := zB_bd hb
  have hmo := hR.mo hp.1 (show pp < 8 by omega)
  have hbd := zMo_bd hmo
  obtain ⟨q0, q1, q2, q3, -, q5, -, q7, q8⟩ := hI.2.2.2.2.2.2.1 pp hp.1 hp.2
  have h4b := hI.2.2.2.1 4 (by decide) (by decide)
  have h5b := hI.2.2.2.1 5 (by decide) (by decide)
  have hhm := (hI.2.2.2.2.2.1 _ q1.1 q1.2).1
  have hR8 := hI.2.2.2.2.2.2.2
  refine z_aload_n C0 hl 0 rfl dX10_thump_0 ?_
  refine z_aload_n C0 hl 1 rfl dX10_thump_1 ?_
  refine zg_6_1 C0 Wd (znO (hR.mo (by omega) (by omega))) (zkO (hR.mo (by omega) (by omega))) zk_158 dX10_thump_2 ?_
  obtain ⟨he2, hz1⟩ : (zM0 (zF0 (b + 6) pp) 1) = (V (96 + 47 * pp + 1)) ∧ zR (V (96 + 47 * pp + 1)) := (fun q => ⟨q, q ▸ Wd.rm _ _⟩) (hR.m1 (by omega) (by omega))
  refine z_top (congrArg zI he2) ?_
  clear he2
  refine z_invVi (As := [.int (zI (V (96 + 47 * pp + 1)))]) (rest := []) C0 Wd (ct_X10_placeOf l g zX ad zM0 zF0 b hb V zt (V (96 + 47 * pp + 1)) hz1 hR hI) kv_X10_placeOf (znB0 hb) (zE_7 (zkB0 hb)) rfl zk_697 rfl hl.1 rfl (Nat.le_of_ble_eq_true rfl) (by decide) (by decide) dX10_thump_5 (fun r3 zMr3 zFr3 H locs hrr3 hp Wd => ?_)
  rcases hp with ⟨hr3_0_0, rfl, rfl, rfl⟩ | ⟨hr3_1_0, rfl, rfl, rfl⟩
  · skip
    refine z_istore_n C0 hl [(2, .int (zI (V (72 + 4 * (V (96 + 47 * pp + 1)) + 0)))), (0, .ref (ad b)), (1, .ref (ad (zF0 (b + 6) pp)))] (by decide) rfl dX10_thump_8 (fun ls hl => ?_)
    refine z_iconst C0 dX10_thump_9 ?_
    refine z_istore_n C0 hl [(3, .int (zI 0)), (2, .int (zI (V (72 + 4 * (V (96 + 47 * pp + 1)) + 0)))), (0, .ref (ad b)), (1, .ref (ad (zF0 (b + 6) pp)))] (by decide) rfl dX10_thump_10 (fun ls hl => ?_)
    have aft11 : ∀ (k11 : Nat) (hk11 : (k11 : Int) ≤ 8) (v1 : Int → Int) (v2 : Int → Int) (hv1 : ∀ q c, 0 ≤ q → q < 5 → zc8 c → v1 (8 * q + c) = if q = V (96 + 47 * pp + 6) ∧ c < (k11 : Int) then (if zdl V (zhm V pp) c < 1000 then V 4 + zdl V (zhm V pp) c else -1) else zM0 (zF0 (b + 6) pp + 1) (8 * q + c)) (hv2 : ∀ c x, zc8 c → 0 ≤ x → x < 128 → v2 (128 * c + x) = zM0 (b + 8) (128 * c + x) + (if c < (k11 : Int) ∧ zdl V (zhm V pp) c < 1000 ∧ x = (V 4 + zdl V (zhm V pp) c) % 128 then 1 else 0)) (hx11 : (k11 : Int) = 8) (H : Heap) (locs : List Loc) (ls : Array Slot) (Wd : zW g (zA (0, 398, zX) ad s.heap.size) s.heap (0, 398, zX) ad (zrow (zrow zM0 (zF0 (b + 6) pp + 1) v1) (b + 8) v2) zF0 H locs) (hl : lv_has ls 5 [(0, .ref (ad b)), (1, .ref (ad (zF0 (b + 6) pp))), (2, .int (zI (V (72 + 4 * (V (96 + 47 * pp + 1)) + 0)))), (3, .int (zI (k11 : Int)))]), W p l e (zrm 3 0 0) s m args below meth c H locs 0 0 (zMQ below g (0, 398, zX) ad (zPv (fun M' F' => (∃ w1 : Int → Int, ∃ w2 : Int → Int, (∀ q c, 0 ≤ q → q < 5 → zc8 c → w1 (8 * q + c) = if q = V (96 + 47 * pp + 6) then (if zdl V (zhm V pp) c < 1000 then V 4 + zdl V (zhm V pp) c else -1) else zM0 (zF0 (b + 6) pp + 1) (8 * q + c)) ∧ (∀ c x, zc8 c → 0 ≤ x → x < 128 → w2 (128 * c + x) = zM0 (b + 8) (128 * c + x) + (if zdl V (zhm V pp) c < 1000 ∧ x = (V 4 + zdl V (zhm V pp) c) % 128 then 1 else 0)) ∧ (zu (zrow (zrow zM0 (zF0 (b + 6) pp + 1) w1) (b + 8) w2) b 8 (V 5 + 1)) = M' ∧ zF0 = F'))) args s 0 0) (F0 m 86 ls []) := by
      intro k11 hk11 v1 v2 hv1 hv2 hx11 H locs ls Wd hl
      replace hl : lv_has ls 5 [(0, .ref (ad b)), (1, .ref (ad (zF0 (b + 6) pp))), (2, .int (zI (V (72 + 4 * (V (96 + 47 * pp + 1)) + 0))))] := lv_sub hl [0, 1, 2] rfl
      obtain rfl : k11 = 8 := by omega
      refine z_aload_n C0 hl 0 rfl dX10_thump_86 ?_
      refine z_dup C0 rfl dX10_thump_87 ?_
      refine zg_7_8 C0 Wd (znB0 hb) (zkB0 hb) zk_208 dX10_thump_88 ?_
      obtain ⟨he6, hz5⟩ : ((zrow (zrow zM0 (zF0 (b + 6) pp + 1) v1) (b + 8) v2) b 8) = (V 5) ∧ zR (V 5) := (fun q => ⟨q, q ▸ Wd.rm _ _⟩) ((congrFun (zrow_ne (by omega)) _).trans ((congrFun (zrow_ne (by omega)) _).trans hR.c8))
      refine z_top (congrArg zI he6) ?_
      clear he6
      refine z_iconst C0 dX10_thump_91 ?_
      refine z_iadd C0 dX10_thump_92 ?_
      refine zp_7_8 C0 Wd (znB0 hb) (zkB0 hb) (by have q0 := hz5.1; have p0 := hz5.2; exact zR_mk (by omega) (by omega)) zk_208 dX10_thump_93 (fun H locs Wd => ?_)
      exact z_vret C0 Wd hret hlk ⟨_, _, fun q c h0 h1 hc => by rw [hv1 q c h0 h1 hc]; have := hc.2; by_cases e : q = V (96 + 47 * pp + 6) <;> first | (rw [if_pos e, if_pos ⟨e, by omega⟩]; done) | (rw [if_neg e, if_neg (fun z => e z.1)]; done), fun c x hc h0 h1 => by rw [hv2 c x hc h0 h1]; have := hc.2; by_cases e : zdl V (zhm V pp) c < 1000 ∧ x = (V 4 + zdl V (zhm V pp) c) % 128 <;> first | (rw [if_pos e, if_pos ⟨by omega, e⟩]; done) | (rw [if_neg e, if_neg (fun z => e z.2)]; done), rfl, rfl⟩ dX10_thump_96
    have lp11 : ∀ (d11 k11 : Nat) (hk11 : (k11 : Int) + d11 = 8) (v1 : Int → Int) (v2 : Int → Int) (hv1 : ∀ q c, 0 ≤ q → q < 5 → zc8 c → v1 (8 * q + c) = if q = V (96 + 47 * pp + 6) ∧ c < (k11 : Int) then (if zdl V (zhm V pp) c < 1000 then V 4 + zdl V (zhm V pp) c else -1) else zM0 (zF0 (b + 6) pp + 1) (8 * q + c)) (hv2 : ∀ c x, zc8 c → 0 ≤ x → x < 128 → v2 (128 * c + x) = zM0 (b + 8) (128 * c + x) + (if c < (k11 : Int) ∧ zdl V (zhm V pp) c < 1000 ∧ x = (V 4 + zdl V (zhm V pp) c) % 128 then 1 else 0)) (H : Heap) (locs : List Loc) (ls : Array Slot) (Wd : zW g (zA (0, 398, zX) ad s.heap.size) s.heap (0, 398, zX) ad (zrow (zrow zM0 (zF0 (b + 6) pp + 1) v1) (b + 8) v2) zF0 H locs) (hl : lv_has ls 5 [(0, .ref (ad b)), (1, .ref (ad (zF0 (b + 6) pp))), (2, .int (zI (V (72 + 4 * (V (96 + 47 * pp + 1)) + 0)))), (3, .int (zI (k11 : Int)))]), W p l e (zrm 3 0 0) s m args below meth c H locs 0 0 (zMQ below g (0, 398, zX) ad (zPv (fun M' F' => (∃ w1 : Int → Int, ∃ w2 : Int → Int, (∀ q c, 0 ≤ q → q < 5 → zc8 c → w1 (8 * q + c) = if q = V (96 + 47 * pp + 6) then (if zdl V (zhm V pp) c < 1000 then V 4 + zdl V (zhm V pp) c else -1) else zM0 (zF0 (b + 6) pp + 1) (8 * q + c)) ∧ (∀ c x, zc8 c → 0 ≤ x → x < 128 → w2 (128 * c + x) = zM0 (b + 8) (128 * c + x) + (if zdl V (zhm V pp) c < 1000 ∧ x = (V 4 + zdl V (zhm V pp) c) % 128 then 1 else 0)) ∧ (zu (zrow (zrow zM0 (zF0 (b + 6) pp + 1) w1) (b + 8) w2) b 8 (V 5 + 1)) = M' ∧ zF0 = F'))) args s 0 0) (F0 m 11 ls []) := by
      intro d11
      induction d11 with
      | zero =>
        intro k11 hk11 v1 v2 hv1 hv2 H locs ls Wd hl
        have hzB := zRB_3 (v1 := v1) (v2 := v2) hR.B hmo
        have hd9 : (k11 : Int) < 8 → (zdl V (zhm V pp) k11 < 1000 → 0 ≤ zdl V (zhm V pp) k11 ∧ zdl V (zhm V pp) k11 ≤ 63) := fun h8 hz1 => by
            unfold zdl at hz1 ⊢
            split at hz1
            · rename_i w
              rw [if_pos w]
              exact zBF_63 hTb ⟨hhm.1, Int.lt_of_lt_of_le hhm.2 h0b.2⟩ ⟨by omega, h8⟩ hz1
            · omega
        refine z_iload_n C0 hl 3 rfl dX10_thump_11 ?_
        refine z_bipush C0 dX10_thump_12 (by decide) ?_
        refine z_icmp_ge C0 (tgt := 86) (zR_mk (by omega) (by omega)) (zR_mk (by decide) (by decide)) dX10_thump_14 (by decide) (fun c7 => ?_) (fun c7 => ?_)
        · skip
          first | exact aft11 k11 (by omega) v1 v2 hv1 hv2 (by first | assumption | omega) _ _ _ Wd (lv_sub hl [0, 1, 2, 3] rfl) | (exfalso; omega)
        · skip
          exfalso; omega
      | succ d11 ih11 =>
        intro k11 hk11 v1 v2 hv1 hv2 H locs ls Wd hl
        have hzB := zRB_3 (v1 := v1) (v2 := v2) hR.B hmo
        have hd9 : (k11 : Int) < 8 → (zdl V (zhm V pp) k11 < 1000 → 0 ≤ zdl V (zhm V pp) k11 ∧ zdl V (zhm V pp) k11 ≤ 63) := fun h8 hz1 => by
            unfold zdl at hz1 ⊢
            split at hz1
            · rename_i w
              rw [if_pos w]
              exact zBF_63 hTb ⟨hhm.1, Int.lt_of_lt_of_le hhm.2 h0b.2⟩ ⟨by omega, h8⟩ hz1
            · omega
        refine z_iload_n C0 hl 3 rfl dX10_thump_11 ?_
        refine z_bipush C0 dX10_thump_12 (by decide) ?_
        refine z_icmp_ge C0 (tgt := 86) (zR_mk (by omega) (by omega)) (zR_mk (by decide) (by decide)) dX10_thump_14 (by decide) (fun c8 => ?_) (fun c8 => ?_)
        · skip
          first | exact aft11 k11 (by omega) v1 v2 hv1 hv2 (by first | assumption | omega) _ _ _ Wd (lv_sub hl [0, 1, 2, 3] rfl) | (exfalso; omega)
        · skip
          refine z_aload_n C0 hl 0 rfl dX10_thump_17 ?_
          refine zg_7_0 C0 Wd (znB0 hb) (zkB0 hb) zk_193 dX10_thump_18 ?_
          refine z_iload_n C0 hl 2 rfl dX10_thump_21 ?_
          refine z_iload_n C0 hl 3 rfl dX10_thump_22 ?_
          refine z_invVi (As := [.int (zI (V (72 + 4 * (V (96 + 47 * pp + 1)) + 0))), .int (zI (k11 : Int))]) (rest := []) C0 Wd (ct_X2_delayOfWay l g zX ad (zrow (zrow zM0 (zF0 (b + 6) pp + 1) v1) (b + 8) v2) zF0 b hb V (V (72 + 4 * (V (96 + 47 * pp + 1)) + 0)) hrr3 (k11 : Int) (zR_mk (by omega) (by omega)) hzB (by omega)) kv_X2_delayOfWay (znB1 hb) (zE_1 (zkB1 hb)) rfl zk_722 rfl hl.1 rfl (Nat.le_of_ble_eq_true rfl) (by decide) (by decide) dX10_thump_23 (fun r9 zMr9 zFr9 H locs hrr9 hp Wd => ?_)
          rcases hp with ⟨hr9_0_0, rfl, rfl, rfl⟩ | ⟨hr9_1_0, rfl, rfl, rfl⟩
          · skip
            have hdl : zdl V (zhm V pp) (k11 : Int) = (zBF V (V (72 + 4 * (V (96 + 47 * pp + 1)) + 0)) (k11 : Int)) := by unfold zdl; rw [if_pos (by omega)]
            refine z_istore C0 hl [(4, .int (zI (zBF V (V (72 + 4 * (V (96 + 47 * pp + 1)) + 0)) (k11 : Int)))), (0, .ref (ad b)), (1, .ref (ad (zF0 (b + 6) pp))), (2, .int (zI (V (72 + 4 * (V (96 + 47 * pp + 1)) + 0)))), (3, .int (zI (k11 : Int)))] (by decide) rfl dX10_thump_26 (fun ls hl => ?_)
            refine z_iload C0 hl 0 rfl dX10_thump_28 ?_
            refine z_sipush C0 dX10_thump_30 (by decide) ?_
            refine z_icmp_ne C0 (tgt := 49) hrr9 (zR_mk (by decide) (by decide)) dX10_thump_33 (by decide) (fun c11 => ?_) (fun c11 => ?_)
            · skip
              have hbf := zBF_bd (V := V) (a := V (72 + 4 * (V (96 + 47 * pp + 1)) + 0)) hTb (k11 : Int) (by omega) (by omega)
              have hd8 := hd9 (by omega) (by omega)
              refine z_aload_n C0 hl 2 rfl dX10_thump_49 ?_
              refine z_aload_n C0 hl 2 rfl dX10_thump_50 ?_
              refine zg_6_6 C0 Wd (znO (hR.mo (by omega) (by omega))) (zkO (hR.mo (by omega) (by omega))) zk_173 dX10_thump_51 ?_
              obtain ⟨he13, hz12⟩ : ((zrow (zrow zM0 (zF0 (b + 6) pp + 1) v1) (b + 8) v2) (zF0 (b + 6) pp) 6) = (V (96 + 47 * pp + 6)) ∧ zR (V (96 + 47 * pp + 6)) := (fun q => ⟨q, q ▸ Wd.rm _ _⟩) ((congrFun (zrow_ne (by omega)) _).trans ((congrFun (zrow_ne (by omega)) _).trans (hR.m6 (by omega) (by omega))))
              refine z_top (congrArg zI he13) ?_
              clear he13
              refine z_iload_n C0 hl 4 rfl dX10_thump_54 ?_
              refine z_aload_n C0 hl 1 rfl dX10_thump_55 ?_
              refine zg_7_7 C0 Wd (znB0 hb) (zkB0 hb) zk_206 dX10_thump_56 ?_
              obtain ⟨he15, hz14⟩ : ((zrow (zrow zM0 (zF0 (b + 6) pp + 1) v1) (b + 8) v2) b 7) = (V 4) ∧ zR (V 4) := (fun q => ⟨q, q ▸ Wd.rm _ _⟩) ((congrFun (zrow_ne (by omega)) _).trans ((congrFun (zrow_ne (by omega)) _).trans hR.c7))
              refine z_top (congrArg zI he15) ?_
              clear he15
              refine z_iload C0 hl 0 rfl dX10_thump_59 ?_
              refine z_iadd C0 dX10_thump_61 ?_
              refine z_invVv (As := [.int (zI (V (96 + 47 * pp + 6))), .int (zI (k11 : Int)), .int (zI ((V 4) + (zBF V (V (72 + 4 * (V (96 + 47 * pp + 1)) + 0)) (k11 : Int))))]) (rest := []) C0 Wd (ct_X9_noteHeard l g zX ad (zrow (zrow zM0 (zF0 (b + 6) pp + 1) v1) (b + 8) v2) zF0 b (zF0 (b + 6) pp) (hR.mo (by omega) (by omega)) (V (96 + 47 * pp + 6)) hz12 (k11 : Int) (zR_mk (by omega) (by omega)) ((V 4) + (zBF V (V (72 + 4 * (V (96 + 47 * pp + 1)) + 0)) (k11 : Int))) (by have q0 := hrr9.1; have p0 := hrr9.2; have q1 := hz14.1; have p1 := hz14.2; exact zR_mk (by omega) (by omega)) (by omega)) kv_X9_noteHeard (znO (hR.mo (by omega) (by omega))) (zE_6 (zkO (hR.mo (by omega) (by omega)))) rfl zk_726 rfl hl.1 rfl (Nat.le_of_ble_eq_true rfl) (by decide) (by decide) dX10_thump_62 (fun zMr16 zFr16 H locs hp Wd => ?_)
              obtain ⟨rfl, rfl⟩ := hp
              replace Wd := zW.mem Wd (zrr_1 (by omega))
              refine z_aload_n C0 hl 1 rfl dX10_thump_65 ?_
              refine zg_7_6 C0 Wd (znB0 hb) (zkB0 hb) zk_204 dX10_thump_66 ?_
              refine z_iload_n C0 hl 4 rfl dX10_thump_69 ?_
              refine z_aload_n C0 hl 1 rfl dX10_thump_70 ?_
              refine zg_7_7 C0 Wd (znB0 hb) (zkB0 hb) zk_206 dX10_thump_71 ?_
              obtain ⟨he19, hz18⟩ : ((zrow (zrow zM0 (zF0 (b + 6) pp + 1) (zup v1 (((V (96 + 47 * pp + 6)) * 8) + (k11 : Int)) ((V 4) + (zBF V (V (72 + 4 * (V (96 + 47 * pp + 1)) + 0)) (k11 : Int))))) (b + 8) v2) b 7) = (V 4) ∧ zR (V 4) := (fun q => ⟨q, q ▸ Wd.rm _ _⟩) ((congrFun (zrow_ne (by omega)) _).trans ((congrFun (zrow_ne (by omega)) _).trans hR.c7))
              refine z_top (congrArg zI he19) ?_
              clear he19
              refine z_iload C0 hl 0 rfl dX10_thump_74 ?_
              refine z_iadd C0 dX10_thump_76 ?_
              have hq77 := hv2 (k11 : Int) (((V 4) + (zBF V (V (72 + 4 * (V (96 + 47 * pp + 1)) + 0)) (k11 : Int))) % 128) ⟨by omega, by omega⟩ (by omega) (by omega)
              rw [if_neg (fun z => by omega)] at hq77
              have hr77 := hR.2.2.2.2.2.2 (k11 : Int) ((V 4) + (zBF V (V (72 + 4 * (V (96 + 47 * pp + 1)) + 0)) (k11 : Int))) ⟨by omega, by omega⟩ (by omega) (by omega)
              have hs77 := (hR8 (472 + 128 * (k11 : Int) + ((V 4) + (zBF V (V (72 + 4 * (V (96 + 47 * pp + 1)) + 0)) (k11 : Int))) % 128) (by omega) (by omega)).2
              refine z_invVv (As := [.int (zI (k11 : Int)), .int (zI ((V 4) + (zBF V (V (72 + 4 * (V (96 + 47 * pp + 1)) + 0)) (k11 : Int))))]) (rest := []) C0 Wd (ct_X1_addThump l g zX ad (zrow (zrow zM0 (zF0 (b + 6) pp + 1) (zup v1 (((V (96 + 47 * pp + 6)) * 8) + (k11 : Int)) ((V 4) + (zBF V (V (72 + 4 * (V (96 + 47 * pp + 1)) + 0)) (k11 : Int))))) (b + 8) v2) zF0 b hb (k11 : Int) (zR_mk (by omega) (by omega)) ((V 4) + (zBF V (V (72 + 4 * (V (96 + 47 * pp + 1)) + 0)) (k11 : Int))) (by have q0 := hrr9.1; have p0 := hrr9.2; have q1 := hz18.1; have p1 := hz18.2; exact zR_mk (by omega) (by omega)) ⟨by omega, by omega⟩ (by rw [zrow_same, Int.mul_comm (k11 : Int) 128]; omega)) kv_X1_addThump (znB7 hb) (zE_0 (zkB7 hb)) rfl zk_733 rfl hl.1 rfl (Nat.le_of_ble_eq_true rfl) (by decide) (by decide) dX10_thump_77 (fun zMr20 zFr20 H locs hp Wd => ?_)
              obtain ⟨rfl, rfl⟩ := hp
              replace Wd := zW.mem Wd zrr_3
              refine z_iinc C0 hl 4 (t := (k11 : Int)) (u := ((k11 : Int) + 1)) rfl (by omega) [(3, .int (zI ((k11 : Int) + 1))), (4, .int (zI (zBF V (V (72 + 4 * (V (96 + 47 * pp + 1)) + 0)) (k11 : Int)))), (0, .ref (ad b)), (1, .ref (ad (zF0 (b + 6) pp))), (2, .int (zI (V (72 + 4 * (V (96 + 47 * pp + 1)) + 0))))] (by decide) rfl dX10_thump_80 (fun ls hl => ?_)
              refine z_goto C0 (tgt := 11) dX10_thump_83 (by decide) ?_
              exact ih11 (k11 + 1) (by omega) (zup v1 (((V (96 + 47 * pp + 6)) * 8) + (k11 : Int)) ((V 4) + (zBF V (V (72 + 4 * (V (96 + 47 * pp + 1)) + 0)) (k11 : Int)))) (zup v2 (((k11 : Int) * 128) + (((V 4) + (zBF V (V (72 + 4 * (V (96 + 47 * pp + 1)) + 0)) (k11 : Int))) % 128)) (v2 (((k11 : Int) * 128) + (((V 4) + (zBF V (V (72 + 4 * (V (96 + 47 * pp + 1)) + 0)) (k11 : Int))) % 128)) + 1)) (zth1_step (dl := fun c => zdl V (zhm V pp) c) hv1 ⟨q7.1, by omega⟩ (by omega) (by first | (rw [if_pos (by omega)]; omega) | (rw [if_neg (by omega)]; done))) (zth2_step (dl := fun c => zdl V (zhm V pp) c) hv2 (by omega) (by omega) (by omega)) _ _ _ Wd (lv_sub hl [2, 3, 4, 0] rfl)
            · skip
              refine z_aload_n C0 hl 2 rfl dX10_thump_36 ?_
              refine z_aload_n C0 hl 2 rfl dX10_thump_37 ?_
              refine zg_6_6 C0 Wd (znO (hR.mo (by omega) (by omega))) (zkO (hR.mo (by omega) (by omega))) zk_173 dX10_thump_38 ?_
              obtain ⟨he23, hz22⟩ : ((zrow (zrow zM0 (zF0 (b + 6) pp + 1) v1) (b + 8) v2) (zF0 (b + 6) pp) 6) = (V (96 + 47 * pp + 6)) ∧ zR (V (96 + 47 * pp + 6)) := (fun q => ⟨q, q ▸ Wd.rm _ _⟩) ((congrFun (zrow_ne (by omega)) _).trans ((congrFun (zrow_ne (by omega)) _).trans (hR.m6 (by omega) (by omega))))
              refine z_top (congrArg zI he23) ?_
              clear he23
              refine z_iload_n C0 hl 4 rfl dX10_thump_41 ?_
              refine z_iconst C0 dX10_thump_42 ?_
              refine z_invVv (As := [.int (zI (V (96 + 47 * pp + 6))), .int (zI (k11 : Int)), .int (zI (-1))]) (rest := []) C0 Wd (ct_X9_noteHeard l g zX ad (zrow (zrow zM0 (zF0 (b + 6) pp + 1) v1) (b + 8) v2) zF0 b (zF0 (b + 6) pp) (hR.mo (by omega) (by omega)) (V (96 + 47 * pp + 6)) hz22 (k11 : Int) (zR_mk (by omega) (by omega)) (-1) (zR_mk (by decide) (by decide)) (by omega)) kv_X9_noteHeard (znO (hR.mo (by omega) (by omega))) (zE_6 (zkO (hR.mo (by omega) (by omega)))) rfl zk_726 rfl hl.1 rfl (Nat.le_of_ble_eq_true rfl) (by decide) (by decide) dX10_thump_43 (fun zMr24 zFr24 H locs hp Wd => ?_)
              obtain ⟨rfl, rfl⟩ := hp
              replace Wd := zW.mem Wd (zrr_1 (by omega))
              refine z_goto C0 (tgt := 80) dX10_thump_46 (by decide) ?_
              refine z_iinc C0 hl 4 (t := (k11 : Int)) (u := ((k11 : Int) + 1)) rfl (by omega) [(3, .int (zI ((k11 : Int) + 1))), (4, .int (zI (zBF V (V (72 + 4 * (V (96 + 47 * pp + 1)) + 0)) (k11 : Int)))), (0, .ref (ad b)), (1, .ref (ad (zF0 (b + 6) pp))), (2, .int (zI (V (72 + 4 * (V (96 + 47 * pp + 1)) + 0))))] (by decide) rfl dX10_thump_80 (fun ls hl => ?_)
              refine z_goto C0 (tgt := 11) dX10_thump_83 (by decide) ?_
              exact ih11 (k11 + 1) (by omega) (zup v1 (((V (96 + 47 * pp + 6)) * 8) + (k11 : Int)) (-1)) v2 (zth1_step (dl := fun c => zdl V (zhm V pp) c) hv1 ⟨q7.1, by omega⟩ (by omega) (by first | (rw [if_pos (by omega)]; omega) | (rw [if_neg (by omega)]; done))) (zth2_no (dl := fun c => zdl V (zhm V pp) c) hv2 (by omega)) _ _ _ Wd (lv_sub hl [2, 3, 4, 0] rfl)
          · skip
            have hdl : zdl V (zhm V pp) (k11 : Int) = 1000 := by unfold zdl; rw [if_neg (by omega)]
            refine z_istore C0 hl [(4, .int (zI 1000)), (0, .ref (ad b)), (1, .ref (ad (zF0 (b + 6) pp))), (2, .int (zI (V (72 + 4 * (V (96 + 47 * pp + 1)) + 0)))), (3, .int (zI (k11 : Int)))] (by decide) rfl dX10_thump_26 (fun ls hl => ?_)
            refine z_iload C0 hl 0 rfl dX10_thump_28 ?_
            refine z_sipush C0 dX10_thump_30 (by decide) ?_
            refine z_icmp_ne C0 (tgt := 49) (zR_mk (by decide) (by decide)) (zR_mk (by decide) (by decide)) dX10_thump_33 (by decide) (fun h => absurd h (by decide)) (fun _ => ?_)
            refine z_aload_n C0 hl 2 rfl dX10_thump_36 ?_
            refine z_aload_n C0 hl 2 rfl dX10_thump_37 ?_
            refine zg_6_6 C0 Wd (znO (hR.mo (by omega) (by omega))) (zkO (hR.mo (by omega) (by omega))) zk_173 dX10_thump_38 ?_
            obtain ⟨he28, hz27⟩ : ((zrow (zrow zM0 (zF0 (b + 6) pp + 1) v1) (b + 8) v2) (zF0 (b + 6) pp) 6) = (V (96 + 47 * pp + 6)) ∧ zR (V (96 + 47 * pp + 6)) := (fun q => ⟨q, q ▸ Wd.rm _ _⟩) ((congrFun (zrow_ne (by omega)) _).trans ((congrFun (zrow_ne (by omega)) _).trans (hR.m6 (by omega) (by omega))))
            refine z_top (congrArg zI he28) ?_
            clear he28
            refine z_iload_n C0 hl 4 rfl dX10_thump_41 ?_
            refine z_iconst C0 dX10_thump_42 ?_
            refine z_invVv (As := [.int (zI (V (96 + 47 * pp + 6))), .int (zI (k11 : Int)), .int (zI (-1))]) (rest := []) C0 Wd (ct_X9_noteHeard l g zX ad (zrow (zrow zM0 (zF0 (b + 6) pp + 1) v1) (b + 8) v2) zF0 b (zF0 (b + 6) pp) (hR.mo (by omega) (by omega)) (V (96 + 47 * pp + 6)) hz27 (k11 : Int) (zR_mk (by omega) (by omega)) (-1) (zR_mk (by decide) (by decide)) (by omega)) kv_X9_noteHeard (znO (hR.mo (by omega) (by omega))) (zE_6 (zkO (hR.mo (by omega) (by omega)))) rfl zk_726 rfl hl.1 rfl (Nat.le_of_ble_eq_true rfl) (by decide) (by decide) dX10_thump_43 (fun zMr29 zFr29 H locs hp Wd => ?_)
            obtain ⟨rfl, rfl⟩ := hp
            replace Wd := zW.mem Wd (zrr_1 (by omega))
            refine z_goto C0 (tgt := 80) dX10_thump_46 (by decide) ?_
            refine z_iinc C0 hl 4 (t := (k11 : Int)) (u := ((k11 : Int) + 1)) rfl (by omega) [(3, .int (zI ((k11 : Int) + 1))), (4, .int (zI 1000)), (0, .ref (ad b)), (1, .ref (ad (zF0 (b + 6) pp))), (2, .int (zI (V (72 + 4 * (V (96 + 47 * pp + 1)) + 0))))] (by decide) rfl dX10_thump_80 (fun ls hl => ?_)
            refine z_goto C0 (tgt := 11) dX10_thump_83 (by decide) ?_
            exact ih11 (k11 + 1) (by omega) (zup v1 (((V (96 + 47 * pp + 6)) * 8) + (k11 : Int)) (-1)) v2 (zth1_step (dl := fun c => zdl V (zhm V pp) c) hv1 ⟨q7.1, by omega⟩ (by omega) (by first | (rw [if_pos (by omega)]; omega) | (rw [if_neg (by omega)]; done))) (zth2_no (dl := fun c => zdl V (zhm V pp) c) hv2 (by omega)) _ _ _ Wd (lv_sub hl [2, 3, 4, 0] rfl)
    exact lp11 8 0 (by omega) (zM0 (zF0 (b + 6) pp + 1)) (zM0 (b + 8)) (fun q c h0 h1 hc => by have := hc.1; rw [if_neg (by omega)]) (fun c x hc h0 h1 => by have := hc.1; rw [if_neg (by omega)]; omega) _ _ _ (Wd.mem (zrows_eta (M := zM0) (i := zF0 (b + 6) pp + 1) (j := b + 8) (by omega)).symm) (lv_sub hl [2, 3, 1, 0] rfl)
  · skip
    exfalso; omega
