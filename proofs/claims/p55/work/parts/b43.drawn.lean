/-! the drawn warren -/
set_option maxHeartbeats 4000000 in
set_option maxRecDepth 100000 in
theorem lw_drawn (l : Launch) (g : zG) (b L : Nat) (xs : Nat → Int32) (hL9 : L ≤ 2048) (hst : l.stackTraces = false) : xMt l yL_drawn cL_drawn 9 (some (.object "DrumWarren")) 14 452 19682 g (zSc b L xs) [.ref b] [] (fun v w1 => ∃ (ad : Int → Nat) (M F : zMem) (t many : Int) (V : Int → Int) (U : Int → Int → Int), v = some (.ref (ad 0)) ∧ w1 = wl g (0, 398, []) ad M F ∧ zRM M ∧ zLw t many V U M F ∧ t ≤ 800 ∧ 2 ≤ V 0 ∧ V 0 ≤ 6 ∧ V 3 ≤ 30) := by
  refine xMt.of "DrumWarrenLaw" rfl (by decide +kernel) (Nat.le_of_ble_eq_true rfl) (fun {p e s m args below meth c ls} C0 Wd hl hret hlk hin hXk hX => ?_)
  have hl : lv_has ls 9 [(0, .ref b)] := hl
  refine r_new C0 Wd inZ_8 tyX11 tyX11_ok zk_65 zk_66 zk_25 (ci := 8) rfl (fs := [.null, .null, .null, .null, .null, .null, .int (zI 0), .int (zI 0), .int (zI 0)]) (by intro j hj; have hc : j = 0 ∨ j = 1 ∨ j = 2 ∨ j = 3 ∨ j = 4 ∨ j = 5 ∨ j = 6 ∨ j = 7 ∨ j = 8 := (by omega); rcases hc with rfl | rfl | rfl | rfl | rfl | rfl | rfl | rfl | rfl <;> rfl) (by decide) (by decide) dL_drawn_0 (fun b0 H Wd => ?_)
  refine z_dup C0 rfl dL_drawn_3 ?_
  refine r_init (wr := []) (wc := [(b0, .inr (8, [.null, .null, .null, .null, .null, .null, .int (zI 0), .int (zI 0), .int (zI 0)]))]) (As := []) (rest := [.ref b0]) C0 (zc_ao C0) Wd (ci_X11_init l g b0) ki_X11_init zk_67 rfl hl.1 rfl (Nat.le_of_ble_eq_true rfl) ⟨by decide, by decide⟩ ⟨by decide, by decide⟩ dL_drawn_4 (fun v w1 H locs hp Wd => ?_)
  obtain ⟨rfl, q, a, R, qh, bs, ah, Rh, ar, qs, hR, hRh, rfl⟩ := hp
  replace Wd := r_eq Wd (w1 := dwk g b0 q a R qh bs ah Rh ar qs) rfl
  obtain ⟨ad, M, F, rfl, Wd, hL⟩ := dw_zW hR hRh Wd
  clear hR hRh
  refine z_astore_n C0 hl [(1, .ref (ad 0)), (0, .ref b)] (by decide) rfl dL_drawn_7 (fun ls hl => ?_)
  refine z_aload_n C0 hl 1 rfl dL_drawn_8 ?_
  refine z_iconst C0 dL_drawn_9 ?_
  refine z_invSx (As := [.ref b, .int (zI 0)]) (rest := []) C0 Wd (lw_cell l g [] ad M F b L xs hL9 0 ⟨by omega, by omega⟩) ks_L_cell hXk hX zk_370 rfl hl.1 rfl (Nat.le_of_ble_eq_true rfl) (by decide) ⟨by show _ ≤ 452; omega, by show _ ≤ 19682; omega⟩ dL_drawn_10 (z_kki (fun k1 M1 F1 H locs hr1 hp1 Wd => ?_))
  obtain ⟨rfl, he1, hf1⟩ := hp1
  rw [he1, hf1] at Wd
  clear he1 hf1
  refine z_iconst C0 dL_drawn_13 ?_
  obtain ⟨v0, hev0, hbv0, hcv0⟩ := zus_1 (zcl xs L 0)
  refine z_iushr C0 (v := v0) hev0 dL_drawn_14 ?_
  refine z_istore_n C0 hl [(2, .int (zI v0)), (1, .ref (ad 0)), (0, .ref b)] (by decide) rfl dL_drawn_15 (fun ls hl => ?_)
  refine z_iconst C0 dL_drawn_16 ?_
  refine z_iload_n C0 hl 0 rfl dL_drawn_17 ?_
  refine z_iconst C0 dL_drawn_18 ?_
  obtain ⟨v2, hev2, hbv2, hcv2⟩ : ∃ v, v0 % 5 = v ∧ 0 ≤ v ∧ v < 5 := ⟨_, rfl, Int.emod_nonneg _ (by omega), Int.emod_lt_of_pos _ (by omega)⟩
  refine z_irem C0 (v := v2) ⟨⟨by omega, by omega⟩, ⟨by omega, by omega⟩, hev2⟩ dL_drawn_19 ?_
  clear hev2
  refine z_iadd C0 dL_drawn_20 ?_
  obtain ⟨ch, hech, hbch, hcch⟩ : ∃ v, (2 + v2) = v ∧ 2 ≤ v ∧ v ≤ 6 := ⟨_, rfl, by omega, by omega⟩
  refine z_top (congrArg zI hech) ?_
  clear hech
  refine z_istore_n C0 hl [(3, .int (zI ch)), (2, .int (zI v0)), (1, .ref (ad 0)), (0, .ref b)] (by decide) rfl dL_drawn_21 (fun ls hl => ?_)
  refine z_iconst C0 dL_drawn_22 ?_
  refine z_iload_n C0 hl 1 rfl dL_drawn_23 ?_
  refine z_iconst C0 dL_drawn_24 ?_
  refine z_iushr C0 (v := (v0 / 8)) (zus_d 3 (by omega) (by omega) ⟨by decide, by decide⟩ rfl) dL_drawn_25 ?_
  refine z_iconst C0 dL_drawn_26 ?_
  obtain ⟨v3, hev3, hbv3, hcv3⟩ : ∃ v, (v0 / 8) % 4 = v ∧ 0 ≤ v ∧ v < 4 := ⟨_, rfl, Int.emod_nonneg _ (by omega), Int.emod_lt_of_pos _ (by omega)⟩
  refine z_irem C0 (v := v3) ⟨⟨by omega, by omega⟩, ⟨by omega, by omega⟩, hev3⟩ dL_drawn_27 ?_
  clear hev3
  refine z_iadd C0 dL_drawn_28 ?_
  obtain ⟨hs, hehs, hbhs, hchs⟩ : ∃ v, (2 + v3) = v ∧ 2 ≤ v ∧ v ≤ 5 := ⟨_, rfl, by omega, by omega⟩
  refine z_top (congrArg zI hehs) ?_
  clear hehs
  refine z_istore C0 hl [(4, .int (zI hs)), (3, .int (zI ch)), (2, .int (zI v0)), (1, .ref (ad 0)), (0, .ref b)] (by decide) rfl dL_drawn_29 (fun ls hl => ?_)
  refine z_iconst C0 dL_drawn_31 ?_
  refine z_istore C0 hl [(5, .int (zI 0)), (4, .int (zI hs)), (3, .int (zI ch)), (2, .int (zI v0)), (1, .ref (ad 0)), (0, .ref b)] (by decide) rfl dL_drawn_32 (fun ls hl => ?_)
  have hb34 : ch ≤ 6 := by omega
  have aft34 : ∀ (k34 : Nat) (hk34 : (k34 : Int) ≤ ch) (m34 : Int) (V34 : Int → Int) (U34 : Int → Int → Int) (M9034 F9034 : zMem) (hL9034 : zLw 0 m34 V34 U34 M9034 F9034) (hv34 : V34 0 = (k34 : Int)) (hw34 : V34 1 = 0) (hz34 : V34 3 ≤ (k34 : Int)) (hx34 : (k34 : Int) = ch) (H : Heap) (locs : List Loc) (ls : Array Slot) (Wd : zW g (va_A [] s.heap.size) s.heap (0, 398, []) ad M9034 F9034 H locs) (hl : lv_has ls 9 [(0, .ref b), (1, .ref (ad 0)), (2, .int (zI v0)), (3, .int (zI ch)), (4, .int (zI hs)), (5, .int (zI (k34 : Int)))]), W p l e (zrm 14 452 19682) s m args below meth c H locs (404) (19394) (rMQ below g [] (fun v w1 => ∃ (ad : Int → Nat) (M F : zMem) (t many : Int) (V : Int → Int) (U : Int → Int → Int), v = some (.ref (ad 0)) ∧ w1 = wl g (0, 398, []) ad M F ∧ zRM M ∧ zLw t many V U M F ∧ t ≤ 800 ∧ 2 ≤ V 0 ∧ V 0 ≤ 6 ∧ V 3 ≤ 30) args s 452 19682) (F0 m 57 ls []) := by
    intro k34 hk34 m34 V34 U34 M9034 F9034 hL9034 hv34 hw34 hz34 hx34 H locs ls Wd hl
    replace hl : lv_has ls 9 [(0, .ref b), (1, .ref (ad 0)), (2, .int (zI v0)), (3, .int (zI ch)), (4, .int (zI hs))] := lv_sub hl [0, 1, 2, 3, 4] rfl
    refine z_iconst C0 dL_drawn_57 ?_
    refine z_istore C0 hl [(5, .int (zI 0)), (0, .ref b), (1, .ref (ad 0)), (2, .int (zI v0)), (3, .int (zI ch)), (4, .int (zI hs))] (by decide) rfl dL_drawn_58 (fun ls hl => ?_)
    have hb60 : (2 + v0 / 64 % 6) ≤ 7 := by omega
    have aft60 : ∀ (k60 : Nat) (hk60 : (k60 : Int) ≤ (2 + v0 / 64 % 6)) (m60 : Int) (V60 : Int → Int) (U60 : Int → Int → Int) (M9060 F9060 : zMem) (hL9060 : zLw 0 m60 V60 U60 M9060 F9060) (hv60 : V60 0 = ch) (hw60 : V60 1 = 0) (hz60 : V60 3 ≤ 6 + (k60 : Int)) (hx60 : (k60 : Int) = (2 + v0 / 64 % 6)) (H : Heap) (locs : List Loc) (ls : Array Slot) (Wd : zW g (va_A [] s.heap.size) s.heap (0, 398, []) ad M9060 F9060 H locs) (hl : lv_has ls 9 [(0, .ref b), (1, .ref (ad 0)), (2, .int (zI v0)), (3, .int (zI ch)), (4, .int (zI hs)), (5, .int (zI (k60 : Int)))]), W p l e (zrm 14 452 19682) s m args below meth c H locs (411) (19436) (rMQ below g [] (fun v w1 => ∃ (ad : Int → Nat) (M F : zMem) (t many : Int) (V : Int → Int) (U : Int → Int → Int), v = some (.ref (ad 0)) ∧ w1 = wl g (0, 398, []) ad M F ∧ zRM M ∧ zLw t many V U M F ∧ t ≤ 800 ∧ 2 ≤ V 0 ∧ V 0 ≤ 6 ∧ V 3 ≤ 30) args s 452 19682) (F0 m 132 ls []) := by
      intro k60 hk60 m60 V60 U60 M9060 F9060 hL9060 hv60 hw60 hz60 hx60 H locs ls Wd hl
      replace hl : lv_has ls 9 [(0, .ref b), (1, .ref (ad 0)), (2, .int (zI v0)), (3, .int (zI ch)), (4, .int (zI hs))] := lv_sub hl [0, 1, 2, 3, 4] rfl
      refine z_iconst C0 dL_drawn_132 ?_
      refine z_istore C0 hl [(5, .int (zI 0)), (0, .ref b), (1, .ref (ad 0)), (2, .int (zI v0)), (3, .int (zI ch)), (4, .int (zI hs))] (by decide) rfl dL_drawn_133 (fun ls hl => ?_)
      have hb135 : hs ≤ 5 := by omega
      have aft135 : ∀ (k135 : Nat) (hk135 : (k135 : Int) ≤ hs) (m135 : Int) (V135 : Int → Int) (U135 : Int → Int → Int) (M9135 F9135 : zMem) (hL9135 : zLw 0 m135 V135 U135 M9135 F9135) (hv135 : V135 0 = ch) (hw135 : V135 1 = (k135 : Int)) (hz135 : V135 3 ≤ 13 + (k135 : Int)) (hx135 : (k135 : Int) = hs) (H : Heap) (locs : List Loc) (ls : Array Slot) (Wd : zW g (va_A [] s.heap.size) s.heap (0, 398, []) ad M9135 F9135 H locs) (hl : lv_has ls 9 [(0, .ref b), (1, .ref (ad 0)), (2, .int (zI v0)), (3, .int (zI ch)), (4, .int (zI hs)), (5, .int (zI (k135 : Int)))]), W p l e (zrm 14 452 19682) s m args below meth c H locs (416) (19466) (rMQ below g [] (fun v w1 => ∃ (ad : Int → Nat) (M F : zMem) (t many : Int) (V : Int → Int) (U : Int → Int → Int), v = some (.ref (ad 0)) ∧ w1 = wl g (0, 398, []) ad M F ∧ zRM M ∧ zLw t many V U M F ∧ t ≤ 800 ∧ 2 ≤ V 0 ∧ V 0 ≤ 6 ∧ V 3 ≤ 30) args s 452 19682) (F0 m 172 ls []) := by
        intro k135 hk135 m135 V135 U135 M9135 F9135 hL9135 hv135 hw135 hz135 hx135 H locs ls Wd hl
        replace hl : lv_has ls 9 [(0, .ref b), (1, .ref (ad 0)), (2, .int (zI v0)), (3, .int (zI ch)), (4, .int (zI hs))] := lv_sub hl [0, 1, 2, 3, 4] rfl
        refine z_iconst C0 dL_drawn_172 ?_
        refine z_istore C0 hl [(5, .int (zI 0)), (0, .ref b), (1, .ref (ad 0)), (2, .int (zI v0)), (3, .int (zI ch)), (4, .int (zI hs))] (by decide) rfl dL_drawn_173 (fun ls hl => ?_)
        have hb175 : 9 ≤ 9 := by omega
        have aft175 : ∀ (k175 : Nat) (hk175 : (k175 : Int) ≤ 9) (t175 : Int) (m175 : Int) (V175 : Int → Int) (U175 : Int → Int → Int) (M9175 F9175 : zMem) (hL9175 : zLw t175 m175 V175 U175 M9175 F9175) (ht175 : 0 ≤ t175 ∧ t175 ≤ 85 * (k175 : Int)) (hv175 : V175 0 = ch) (hw175 : V175 1 = hs) (hz175 : V175 3 ≤ 18 + (k175 : Int)) (hx175 : (k175 : Int) = 9) (H : Heap) (locs : List Loc) (ls : Array Slot) (Wd : zW g (va_A [] s.heap.size) s.heap (0, 398, []) ad M9175 F9175 H locs) (hl : lv_has ls 9 [(0, .ref b), (1, .ref (ad 0)), (2, .int (zI v0)), (3, .int (zI ch)), (4, .int (zI hs)), (5, .int (zI (k175 : Int)))]), W p l e (zrm 14 452 19682) s m args below meth c H locs (452) (19682) (rMQ below g [] (fun v w1 => ∃ (ad : Int → Nat) (M F : zMem) (t many : Int) (V : Int → Int) (U : Int → Int → Int), v = some (.ref (ad 0)) ∧ w1 = wl g (0, 398, []) ad M F ∧ zRM M ∧ zLw t many V U M F ∧ t ≤ 800 ∧ 2 ≤ V 0 ∧ V 0 ≤ 6 ∧ V 3 ≤ 30) args s 452 19682) (F0 m 325 ls []) := by
          intro k175 hk175 t175 m175 V175 U175 M9175 F9175 hL9175 ht175 hv175 hw175 hz175 hx175 H locs ls Wd hl
          replace hl : lv_has ls 9 [(0, .ref b), (1, .ref (ad 0))] := lv_sub hl [0, 1] rfl
          refine z_aload_n C0 hl 1 rfl dL_drawn_325 ?_
          refine W.widen (k := 452) (n := 19682) (by omega) (by omega) ?_
          exact r_aret C0 (zW_r Wd) hret (Or.inl ⟨_, rfl⟩) hlk ⟨ad, M9175, F9175, t175, m175, V175, U175, rfl, rfl, Wd.2, hL9175, by omega, by omega, by omega, by omega⟩ dL_drawn_326
        have lp175 : ∀ (d175 k175 : Nat) (hk175 : (k175 : Int) + d175 = 9) (t175 : Int) (m175 : Int) (V175 : Int → Int) (U175 : Int → Int → Int) (M9175 F9175 : zMem) (hL9175 : zLw t175 m175 V175 U175 M9175 F9175) (ht175 : 0 ≤ t175 ∧ t175 ≤ 85 * (k175 : Int)) (hv175 : V175 0 = ch) (hw175 : V175 1 = hs) (hz175 : V175 3 ≤ 18 + (k175 : Int)) (H : Heap) (locs : List Loc) (ls : Array Slot) (Wd : zW g (va_A [] s.heap.size) s.heap (0, 398, []) ad M9175 F9175 H locs) (hl : lv_has ls 9 [(0, .ref b), (1, .ref (ad 0)), (2, .int (zI v0)), (3, .int (zI ch)), (4, .int (zI hs)), (5, .int (zI (k175 : Int)))]), W p l e (zrm 14 452 19682) s m args below meth c H locs (4 * k175 + 416) (24 * k175 + 19466) (rMQ below g [] (fun v w1 => ∃ (ad : Int → Nat) (M F : zMem) (t many : Int) (V : Int → Int) (U : Int → Int → Int), v = some (.ref (ad 0)) ∧ w1 = wl g (0, 398, []) ad M F ∧ zRM M ∧ zLw t many V U M F ∧ t ≤ 800 ∧ 2 ≤ V 0 ∧ V 0 ≤ 6 ∧ V 3 ≤ 30) args s 452 19682) (F0 m 175 ls []) := by
          intro d175
          induction d175 with
          | zero =>
            intro k175 hk175 t175 m175 V175 U175 M9175 F9175 hL9175 ht175 hv175 hw175 hz175 H locs ls Wd hl
            refine z_iload C0 hl 5 rfl dL_drawn_175 ?_
            refine z_bipush C0 dL_drawn_177 (by decide) ?_
            refine z_icmp_ge C0 (tgt := 325) (zR_mk (by omega) (by omega)) (zR_mk (by decide) (by decide)) dL_drawn_179 (by decide) (fun c4 => ?_) (fun c4 => ?_)
            · skip
              refine W.widen (k := (452)) (n := (19682)) (by omega) (by omega) ?_
              exact aft175 k175 (by omega) t175 m175 V175 U175 M9175 F9175 hL9175 (by first | assumption | omega) (by first | assumption | omega) (by first | assumption | omega) (by first | assumption | omega) (by first | assumption | omega) _ _ _ Wd (lv_sub hl [0, 1, 2, 3, 4, 5] rfl)
            · skip
              exfalso; omega
          | succ d175 ih175 =>
            intro k175 hk175 t175 m175 V175 U175 M9175 F9175 hL9175 ht175 hv175 hw175 hz175 H locs ls Wd hl
            refine z_iload C0 hl 5 rfl dL_drawn_175 ?_
            refine z_bipush C0 dL_drawn_177 (by decide) ?_
            refine z_icmp_ge C0 (tgt := 325) (zR_mk (by omega) (by omega)) (zR_mk (by decide) (by decide)) dL_drawn_179 (by decide) (fun c5 => ?_) (fun c5 => ?_)
            · skip
              exfalso; omega
            · skip
              refine z_aload_n C0 hl 0 rfl dL_drawn_182 ?_
              refine z_bipush C0 dL_drawn_183 (by decide) ?_
              refine z_iload C0 hl 5 rfl dL_drawn_185 ?_
              refine z_iadd C0 dL_drawn_187 ?_
              refine z_invSx (As := [.ref b, .int (zI (14 + (k175 : Int)))]) (rest := []) C0 Wd (lw_cell l g [] ad M9175 F9175 b L xs hL9 (14 + (k175 : Int)) ⟨by omega, by omega⟩) ks_L_cell hXk hX zk_370 rfl hl.1 rfl (Nat.le_of_ble_eq_true rfl) (by decide) ⟨by show _ ≤ 452; omega, by show _ ≤ 19682; omega⟩ dL_drawn_188 (z_kki (fun k6 M6 F6 H locs hr6 hp6 Wd => ?_))
              obtain ⟨rfl, he6, hf6⟩ := hp6
              rw [he6, hf6] at Wd
              clear he6 hf6
              refine z_iconst C0 dL_drawn_191 ?_
              obtain ⟨v7, hev7, hbv7, hcv7⟩ := zus_1 (zcl xs L (14 + (k175 : Int)))
              refine z_iushr C0 (v := v7) hev7 dL_drawn_192 ?_
              refine z_istore C0 hl [(6, .int (zI v7)), (0, .ref b), (1, .ref (ad 0)), (2, .int (zI v0)), (3, .int (zI ch)), (4, .int (zI hs)), (5, .int (zI (k175 : Int)))] (by decide) rfl dL_drawn_193 (fun ls hl => ?_)
              refine z_iload C0 hl 0 rfl dL_drawn_195 ?_
              refine z_iconst C0 dL_drawn_197 ?_
              refine z_iushr C0 (v := (v7 / 8)) (zus_d 3 (by omega) (by omega) ⟨by decide, by decide⟩ rfl) dL_drawn_198 ?_
              refine z_iload C0 hl 5 rfl dL_drawn_199 ?_
              obtain ⟨v8, hev8, hbv8, hcv8⟩ : ∃ v, (v7 / 8) % hs = v ∧ 0 ≤ v ∧ v < hs := ⟨_, rfl, Int.emod_nonneg _ (by omega), Int.emod_lt_of_pos _ (by omega)⟩
              refine z_irem C0 (v := v8) ⟨⟨by omega, by omega⟩, ⟨by omega, by omega⟩, hev8⟩ dL_drawn_201 ?_
              clear hev8
              refine z_istore C0 hl [(7, .int (zI v8)), (6, .int (zI v7)), (0, .ref b), (1, .ref (ad 0)), (2, .int (zI v0)), (3, .int (zI ch)), (4, .int (zI hs)), (5, .int (zI (k175 : Int)))] (by decide) rfl dL_drawn_202 (fun ls hl => ?_)
              have jn309 : ∀ (is : Int) (t309 : Int) (m309 : Int) (V309 : Int → Int) (U309 : Int → Int → Int) (M8309 F8309 : zMem) (hL8309 : zLw t309 m309 V309 U309 M8309 F8309) (hz309 : zR is) (hi309 : is ≠ -1) (ht309 : 0 ≤ t309 ∧ t309 ≤ 85 * (k175 : Int) + 85) (hv309 : V309 0 = ch) (hw309 : V309 1 = hs) (hq309 : V309 3 ≤ 19 + (k175 : Int)) (H : Heap) (locs : List Loc) (ls : Array Slot) (Wd : zW g (va_A [] s.heap.size) s.heap (0, 398, []) ad M8309 F8309 H locs) (hl : lv_has ls 9 [(0, .ref b), (1, .ref (ad 0)), (2, .int (zI v0)), (3, .int (zI ch)), (4, .int (zI hs)), (5, .int (zI (k175 : Int))), (6, .int (zI v7)), (7, .int (zI v8))]), W p l e (zrm 14 452 19682) s m args below meth c H locs (4 * k175 + 420) (24 * k175 + 19490) (rMQ below g [] (fun v w1 => ∃ (ad : Int → Nat) (M F : zMem) (t many : Int) (V : Int → Int) (U : Int → Int → Int), v = some (.ref (ad 0)) ∧ w1 = wl g (0, 398, []) ad M F ∧ zRM M ∧ zLw t many V U M F ∧ t ≤ 800 ∧ 2 ≤ V 0 ∧ V 0 ≤ 6 ∧ V 3 ≤ 30) args s 452 19682) (F0 m 309 ls [.int (zI is)]) := by
                intro is t309 m309 V309 U309 M8309 F8309 hL8309 hz309 hi309 ht309 hv309 hw309 hq309 H locs ls Wd hl
                refine z_istore C0 hl [(8, .int (zI is)), (0, .ref b), (1, .ref (ad 0)), (2, .int (zI v0)), (3, .int (zI ch)), (4, .int (zI hs)), (5, .int (zI (k175 : Int))), (6, .int (zI v7)), (7, .int (zI v8))] (by decide) rfl dL_drawn_309 (fun ls hl => ?_)
                refine z_iload C0 hl 0 rfl dL_drawn_311 ?_
                refine z_iconst C0 dL_drawn_313 ?_
                refine z_icmp_ne C0 (tgt := 319) hz309 (zR_mk (by decide) (by decide)) dL_drawn_314 (by decide) (fun c9 => ?_) (fun h9 => (by exfalso; omega))
                refine z_iinc C0 hl 6 (t := (k175 : Int)) (u := ((k175 : Int) + 1)) rfl (by omega) [(5, .int (zI ((k175 : Int) + 1))), (8, .int (zI is)), (0, .ref b), (1, .ref (ad 0)), (2, .int (zI v0)), (3, .int (zI ch)), (4, .int (zI hs)), (6, .int (zI v7)), (7, .int (zI v8))] (by decide) rfl dL_drawn_319 (fun ls hl => ?_)
                refine z_goto C0 (tgt := 175) dL_drawn_322 (by decide) ?_
                refine W.widen (k := (4 * (k175 + 1) + 416)) (n := (24 * (k175 + 1) + 19466)) (by omega) (by omega) ?_
                exact ih175 (k175 + 1) (by omega) t309 m309 V309 U309 M8309 F8309 hL8309 (by first | assumption | omega) (by first | assumption | omega) (by first | assumption | omega) (by first | assumption | omega) _ _ _ Wd (lv_sub hl [2, 3, 4, 5, 6, 0] rfl)
              refine z_iload C0 hl 1 rfl dL_drawn_204 ?_
              refine z_bipush C0 dL_drawn_206 (by decide) ?_
              obtain ⟨v10, hev10, hbv10, hcv10⟩ : ∃ v, v7 % 8 = v ∧ 0 ≤ v ∧ v < 8 := ⟨_, rfl, Int.emod_nonneg _ (by omega), Int.emod_lt_of_pos _ (by omega)⟩
              refine z_irem C0 (v := v10) ⟨⟨by omega, by omega⟩, ⟨by omega, by omega⟩, hev10⟩ dL_drawn_208 ?_
              clear hev10
              refine z_iconst C0 dL_drawn_209 ?_
              refine z_icmp_ge C0 (tgt := 238) (zR_mk (by omega) (by omega)) (zR_mk (by decide) (by decide)) dL_drawn_210 (by decide) (fun c11 => ?_) (fun c11 => ?_)
              · skip
                refine z_iload C0 hl 1 rfl dL_drawn_238 ?_
                refine z_bipush C0 dL_drawn_240 (by decide) ?_
                obtain ⟨v12, hev12, hbv12, hcv12⟩ : ∃ v, v7 % 8 = v ∧ 0 ≤ v ∧ v < 8 := ⟨_, rfl, Int.emod_nonneg _ (by omega), Int.emod_lt_of_pos _ (by omega)⟩
                refine z_irem C0 (v := v12) ⟨⟨by omega, by omega⟩, ⟨by omega, by omega⟩, hev12⟩ dL_drawn_242 ?_
                clear hev12
                refine z_iconst C0 dL_drawn_243 ?_
                refine z_icmp_ne C0 (tgt := 271) (zR_mk (by omega) (by omega)) (zR_mk (by decide) (by decide)) dL_drawn_244 (by decide) (fun c13 => ?_) (fun c13 => ?_)
                · skip
                  refine z_iload C0 hl 1 rfl dL_drawn_271 ?_
                  refine z_bipush C0 dL_drawn_273 (by decide) ?_
                  obtain ⟨v14, hev14, hbv14, hcv14⟩ : ∃ v, v7 % 8 = v ∧ 0 ≤ v ∧ v < 8 := ⟨_, rfl, Int.emod_nonneg _ (by omega), Int.emod_lt_of_pos _ (by omega)⟩
                  refine z_irem C0 (v := v14) ⟨⟨by omega, by omega⟩, ⟨by omega, by omega⟩, hev14⟩ dL_drawn_275 ?_
                  clear hev14
                  refine z_iconst C0 dL_drawn_276 ?_
                  refine z_icmp_ne C0 (tgt := 296) (zR_mk (by omega) (by omega)) (zR_mk (by decide) (by decide)) dL_drawn_277 (by decide) (fun c15 => ?_) (fun c15 => ?_)
                  · skip
                    refine z_aload_n C0 hl 3 rfl dL_drawn_296 ?_
                    refine z_iconst C0 dL_drawn_297 ?_
                    refine z_iload C0 hl 1 rfl dL_drawn_298 ?_
                    refine z_bipush C0 dL_drawn_300 (by decide) ?_
                    refine z_iushr C0 (v := (v7 / 512)) (zus_d 9 (by omega) (by omega) ⟨by decide, by decide⟩ rfl) dL_drawn_302 ?_
                    refine z_iconst C0 dL_drawn_303 ?_
                    obtain ⟨v16, hev16, hbv16, hcv16⟩ : ∃ v, (v7 / 512) % 5 = v ∧ 0 ≤ v ∧ v < 5 := ⟨_, rfl, Int.emod_nonneg _ (by omega), Int.emod_lt_of_pos _ (by omega)⟩
                    refine z_irem C0 (v := v16) ⟨⟨by omega, by omega⟩, ⟨by omega, by omega⟩, hev16⟩ dL_drawn_304 ?_
                    clear hev16
                    refine z_iadd C0 dL_drawn_305 ?_
                    refine z_invSH (As := [.ref (ad 0), .int (zI (1 + v16))]) (rest := []) C0 Wd hst (hq_pass l g [] ad M9175 F9175 hL9175 (1 + v16) (zR_mk (by omega) (by omega)) (by omega) (by omega) (by omega)) hs_pass zk_674 rfl hl.1 rfl (Nat.le_of_ble_eq_true rfl) (by decide) ⟨by show _ ≤ 452; omega, by show _ ≤ 19682; omega⟩ dL_drawn_306 (fun k17 M17 F17 H locs hr17 hp17 Wd => ?_)
                    obtain ⟨m17, V17, U17, hL17, hA17, hB17, hK17, hC17⟩ := dq_PT hL9175 hp17 (by omega) (by omega)
                    clear hp17
                    refine W.widen (k := (4 * k175 + 420)) (n := (24 * k175 + 19490)) (by omega) (by omega) ?_
                    exact jn309 k17 (t175 + 17 * (1 + v16)) m17 V17 U17 M17 F17 hL17 hr17 (by first | assumption | omega) (by omega) (by omega) (by omega) (by omega) _ _ _ Wd (lv_sub hl [2, 3, 4, 5, 6, 7, 1, 0] rfl)
                  · skip
                    refine z_aload_n C0 hl 3 rfl dL_drawn_280 ?_
                    refine z_iload C0 hl 0 rfl dL_drawn_281 ?_
                    refine z_iload C0 hl 1 rfl dL_drawn_283 ?_
                    refine z_bipush C0 dL_drawn_285 (by decide) ?_
                    refine z_iushr C0 (v := (v7 / 64)) (zus_d 6 (by omega) (by omega) ⟨by decide, by decide⟩ rfl) dL_drawn_287 ?_
                    refine z_iload_n C0 hl 5 rfl dL_drawn_288 ?_
                    obtain ⟨v18, hev18, hbv18, hcv18⟩ : ∃ v, (v7 / 64) % ch = v ∧ 0 ≤ v ∧ v < ch := ⟨_, rfl, Int.emod_nonneg _ (by omega), Int.emod_lt_of_pos _ (by omega)⟩
                    refine z_irem C0 (v := v18) ⟨⟨by omega, by omega⟩, ⟨by omega, by omega⟩, hev18⟩ dL_drawn_289 ?_
                    clear hev18
                    refine z_invSH (As := [.ref (ad 0), .int (zI v8), .int (zI v18)]) (rest := []) C0 Wd hst (hq_move l g [] ad M9175 F9175 hL9175 v8 (zR_mk (by omega) (by omega)) v18 (zR_mk (by omega) (by omega)) ) hs_move zk_655 rfl hl.1 rfl (Nat.le_of_ble_eq_true rfl) (by decide) ⟨by show _ ≤ 452; omega, by show _ ≤ 19682; omega⟩ dL_drawn_290 (fun k19 M19 F19 H locs hr19 hp19 Wd => ?_)
                    obtain ⟨m19, V19, U19, hL19, hA19, hB19, hK19, hC19⟩ := dq_Mv hL9175 hp19 ⟨by omega, by omega⟩ ⟨by omega, by omega⟩
                    clear hp19
                    refine z_goto C0 (tgt := 309) dL_drawn_293 (by decide) ?_
                    refine W.widen (k := (4 * k175 + 420)) (n := (24 * k175 + 19490)) (by omega) (by omega) ?_
                    exact jn309 k19 t175 m19 V19 U19 M19 F19 hL19 hr19 (by first | assumption | omega) (by omega) (by omega) (by omega) (by omega) _ _ _ Wd (lv_sub hl [2, 3, 4, 5, 6, 7, 1, 0] rfl)
                · skip
                  refine z_aload_n C0 hl 3 rfl dL_drawn_247 ?_
                  refine z_iload C0 hl 0 rfl dL_drawn_248 ?_
                  refine z_iload C0 hl 1 rfl dL_drawn_250 ?_
                  refine z_bipush C0 dL_drawn_252 (by decide) ?_
                  obtain ⟨v20, hev20, hbv20, hcv20⟩ : ∃ v, v7 % 16 = v ∧ 0 ≤ v ∧ v < 16 := ⟨_, rfl, Int.emod_nonneg _ (by omega), Int.emod_lt_of_pos _ (by omega)⟩
                  refine z_irem C0 (v := v20) ⟨⟨by omega, by omega⟩, ⟨by omega, by omega⟩, hev20⟩ dL_drawn_254 ?_
                  clear hev20
                  have jn265 : ∀ (M8265 F8265 : zMem) (hL8265 : zLw t175 m175 V175 U175 M8265 F8265) (H : Heap) (locs : List Loc) (ls : Array Slot) (Wd : zW g (va_A [] s.heap.size) s.heap (0, 398, []) ad M8265 F8265 H locs) (hl : lv_has ls 9 [(0, .ref b), (1, .ref (ad 0)), (2, .int (zI v0)), (3, .int (zI ch)), (4, .int (zI hs)), (5, .int (zI (k175 : Int))), (6, .int (zI v7)), (7, .int (zI v8))]), W p l e (zrm 14 452 19682) s m args below meth c H locs (4 * k175 + 416) (24 * k175 + 19466) (rMQ below g [] (fun v w1 => ∃ (ad : Int → Nat) (M F : zMem) (t many : Int) (V : Int → Int) (U : Int → Int → Int), v = some (.ref (ad 0)) ∧ w1 = wl g (0, 398, []) ad M F ∧ zRM M ∧ zLw t many V U M F ∧ t ≤ 800 ∧ 2 ≤ V 0 ∧ V 0 ≤ 6 ∧ V 3 ≤ 30) args s 452 19682) (F0 m 265 ls [.int (zI (zb (7 < v20))), .int (zI v8), .ref (ad 0)]) := by
                    intro M8265 F8265 hL8265 H locs ls Wd hl
                    refine z_invSH (As := [.ref (ad 0), .int (zI v8), .int (zI (zb (7 < v20)))]) (rest := []) C0 Wd hst (hq_listen l g [] ad M8265 F8265 hL8265 v8 (zR_mk (by omega) (by omega)) (7 < v20) ) hs_listen zk_640 rfl hl.1 rfl (Nat.le_of_ble_eq_true rfl) (by decide) ⟨by show _ ≤ 452; omega, by show _ ≤ 19682; omega⟩ dL_drawn_265 (fun k21 M21 F21 H locs hr21 hp21 Wd => ?_)
                    obtain ⟨m21, V21, U21, hL21, hA21, hB21, hK21, hC21⟩ := dq_Li hL8265 hp21 ⟨by omega, by omega⟩
                    clear hp21
                    refine z_goto C0 (tgt := 309) dL_drawn_268 (by decide) ?_
                    refine W.widen (k := (4 * k175 + 420)) (n := (24 * k175 + 19490)) (by omega) (by omega) ?_
                    exact jn309 k21 t175 m21 V21 U21 M21 F21 hL21 hr21 (by first | assumption | omega) (by omega) (by omega) (by omega) (by omega) _ _ _ Wd (lv_sub hl [0, 1, 2, 3, 4, 5, 6, 7] rfl)
                  refine z_bipush C0 dL_drawn_255 (by decide) ?_
                  refine z_icmp_le C0 (tgt := 264) (zR_mk (by omega) (by omega)) (zR_mk (by decide) (by decide)) dL_drawn_257 (by decide) (fun c22 => ?_) (fun c22 => ?_)
                  · skip
                    refine z_iconst C0 dL_drawn_264 ?_
                    refine z_top (congrArg zI (show 0 = zb (7 < v20) from (zb_f (by omega)).symm)) ?_
                    refine W.widen (k := (4 * k175 + 416)) (n := (24 * k175 + 19466)) (by omega) (by omega) ?_
                    exact jn265  M9175 F9175 hL9175  _ _ _ Wd (lv_sub hl [2, 3, 4, 5, 6, 7, 1, 0] rfl)
                  · skip
                    refine z_iconst C0 dL_drawn_260 ?_
                    refine z_goto C0 (tgt := 265) dL_drawn_261 (by decide) ?_
                    refine z_top (congrArg zI (show 1 = zb (7 < v20) from (zb_t (by omega)).symm)) ?_
                    refine W.widen (k := (4 * k175 + 416)) (n := (24 * k175 + 19466)) (by omega) (by omega) ?_
                    exact jn265  M9175 F9175 hL9175  _ _ _ Wd (lv_sub hl [2, 3, 4, 5, 6, 7, 1, 0] rfl)
              · skip
                refine z_aload_n C0 hl 3 rfl dL_drawn_213 ?_
                refine z_iload C0 hl 0 rfl dL_drawn_214 ?_
                refine z_iload C0 hl 1 rfl dL_drawn_216 ?_
                refine z_bipush C0 dL_drawn_218 (by decide) ?_
                refine z_iushr C0 (v := (v7 / 64)) (zus_d 6 (by omega) (by omega) ⟨by decide, by decide⟩ rfl) dL_drawn_220 ?_
                refine z_iload C0 hl 6 rfl dL_drawn_221 ?_
                obtain ⟨v23, hev23, hbv23, hcv23⟩ : ∃ v, (v7 / 64) % hs = v ∧ 0 ≤ v ∧ v < hs := ⟨_, rfl, Int.emod_nonneg _ (by omega), Int.emod_lt_of_pos _ (by omega)⟩
                refine z_irem C0 (v := v23) ⟨⟨by omega, by omega⟩, ⟨by omega, by omega⟩, hev23⟩ dL_drawn_223 ?_
                clear hev23
                refine z_iload C0 hl 1 rfl dL_drawn_224 ?_
                refine z_bipush C0 dL_drawn_226 (by decide) ?_
                refine z_iushr C0 (v := (v7 / 512)) (zus_d 9 (by omega) (by omega) ⟨by decide, by decide⟩ rfl) dL_drawn_228 ?_
                refine z_bipush C0 dL_drawn_229 (by decide) ?_
                obtain ⟨v24, hev24, hbv24, hcv24⟩ : ∃ v, (v7 / 512) % 16 = v ∧ 0 ≤ v ∧ v < 16 := ⟨_, rfl, Int.emod_nonneg _ (by omega), Int.emod_lt_of_pos _ (by omega)⟩
                refine z_irem C0 (v := v24) ⟨⟨by omega, by omega⟩, ⟨by omega, by omega⟩, hev24⟩ dL_drawn_231 ?_
                clear hev24
                refine z_invSH (As := [.ref (ad 0), .int (zI v8), .int (zI v23), .int (zI v24)]) (rest := []) C0 Wd hst (hq_say l g [] ad M9175 F9175 hL9175 v8 (zR_mk (by omega) (by omega)) v23 (zR_mk (by omega) (by omega)) v24 (zR_mk (by omega) (by omega)) (by omega)) hs_say zk_621 rfl hl.1 rfl (Nat.le_of_ble_eq_true rfl) (by decide) ⟨by show _ ≤ 452; omega, by show _ ≤ 19682; omega⟩ dL_drawn_232 (fun k25 M25 F25 H locs hr25 hp25 Wd => ?_)
                obtain ⟨m25, V25, U25, hL25, hA25, hB25, hK25, hC25⟩ := dq_Say hL9175 hp25 ⟨by omega, by omega⟩ ⟨by omega, by omega⟩
                clear hp25
                refine z_goto C0 (tgt := 309) dL_drawn_235 (by decide) ?_
                refine W.widen (k := (4 * k175 + 420)) (n := (24 * k175 + 19490)) (by omega) (by omega) ?_
                exact jn309 k25 (t175 + 1) m25 V25 U25 M25 F25 hL25 hr25 (by first | assumption | omega) (by omega) (by omega) (by omega) (by omega) _ _ _ Wd (lv_sub hl [2, 3, 4, 5, 6, 7, 1, 0] rfl)
        refine W.widen (k := (4 * 0 + 416)) (n := (24 * 0 + 19466)) (by omega) (by omega) ?_
        exact lp175 9 0 (by omega) 0 m135 V135 U135 M9135 F9135 hL9135 (by first | assumption | omega | rfl) (by first | assumption | omega | rfl) (by first | assumption | omega | rfl) (by first | assumption | omega | rfl) _ _ _ Wd (lv_sub hl [1, 2, 3, 4, 5, 0] rfl)
      have lp135 : ∀ (d135 k135 : Nat) (hk135 : (k135 : Int) + d135 = hs) (m135 : Int) (V135 : Int → Int) (U135 : Int → Int → Int) (M9135 F9135 : zMem) (hL9135 : zLw 0 m135 V135 U135 M9135 F9135) (hv135 : V135 0 = ch) (hw135 : V135 1 = (k135 : Int)) (hz135 : V135 3 ≤ 13 + (k135 : Int)) (H : Heap) (locs : List Loc) (ls : Array Slot) (Wd : zW g (va_A [] s.heap.size) s.heap (0, 398, []) ad M9135 F9135 H locs) (hl : lv_has ls 9 [(0, .ref b), (1, .ref (ad 0)), (2, .int (zI v0)), (3, .int (zI ch)), (4, .int (zI hs)), (5, .int (zI (k135 : Int)))]), W p l e (zrm 14 452 19682) s m args below meth c H locs (1 * k135 + 411) (6 * k135 + 19436) (rMQ below g [] (fun v w1 => ∃ (ad : Int → Nat) (M F : zMem) (t many : Int) (V : Int → Int) (U : Int → Int → Int), v = some (.ref (ad 0)) ∧ w1 = wl g (0, 398, []) ad M F ∧ zRM M ∧ zLw t many V U M F ∧ t ≤ 800 ∧ 2 ≤ V 0 ∧ V 0 ≤ 6 ∧ V 3 ≤ 30) args s 452 19682) (F0 m 135 ls []) := by
        intro d135
        induction d135 with
        | zero =>
          intro k135 hk135 m135 V135 U135 M9135 F9135 hL9135 hv135 hw135 hz135 H locs ls Wd hl
          refine z_iload C0 hl 5 rfl dL_drawn_135 ?_
          refine z_iload C0 hl 4 rfl dL_drawn_137 ?_
          refine z_icmp_ge C0 (tgt := 172) (zR_mk (by omega) (by omega)) (zR_mk (by omega) (by omega)) dL_drawn_139 (by decide) (fun c26 => ?_) (fun c26 => ?_)
          · skip
            refine W.widen (k := (416)) (n := (19466)) (by omega) (by omega) ?_
            exact aft135 k135 (by omega) m135 V135 U135 M9135 F9135 hL9135 (by first | assumption | omega) (by first | assumption | omega) (by first | assumption | omega) (by first | assumption | omega) _ _ _ Wd (lv_sub hl [0, 1, 2, 3, 4, 5] rfl)
          · skip
            exfalso; omega
        | succ d135 ih135 =>
          intro k135 hk135 m135 V135 U135 M9135 F9135 hL9135 hv135 hw135 hz135 H locs ls Wd hl
          refine z_iload C0 hl 5 rfl dL_drawn_135 ?_
          refine z_iload C0 hl 4 rfl dL_drawn_137 ?_
          refine z_icmp_ge C0 (tgt := 172) (zR_mk (by omega) (by omega)) (zR_mk (by omega) (by omega)) dL_drawn_139 (by decide) (fun c27 => ?_) (fun c27 => ?_)
          · skip
            exfalso; omega
          · skip
            refine z_aload_n C0 hl 1 rfl dL_drawn_142 ?_
            refine z_aload_n C0 hl 0 rfl dL_drawn_143 ?_
            refine z_bipush C0 dL_drawn_144 (by decide) ?_
            refine z_iload C0 hl 5 rfl dL_drawn_146 ?_
            refine z_iadd C0 dL_drawn_148 ?_
            refine z_invSx (As := [.ref b, .int (zI (9 + (k135 : Int)))]) (rest := [.ref (ad 0)]) C0 Wd (lw_cell l g [] ad M9135 F9135 b L xs hL9 (9 + (k135 : Int)) ⟨by omega, by omega⟩) ks_L_cell hXk hX zk_370 rfl hl.1 rfl (Nat.le_of_ble_eq_true rfl) (by decide) ⟨by show _ ≤ 452; omega, by show _ ≤ 19682; omega⟩ dL_drawn_149 (z_kki (fun k28 M28 F28 H locs hr28 hp28 Wd => ?_))
            obtain ⟨rfl, he28, hf28⟩ := hp28
            rw [he28, hf28] at Wd
            clear he28 hf28
            refine z_iconst C0 dL_drawn_152 ?_
            obtain ⟨v29, hev29, hbv29, hcv29⟩ := zus_1 (zcl xs L (9 + (k135 : Int)))
            refine z_iushr C0 (v := v29) hev29 dL_drawn_153 ?_
            refine z_iload_n C0 hl 3 rfl dL_drawn_154 ?_
            obtain ⟨v30, hev30, hbv30, hcv30⟩ : ∃ v, v29 % ch = v ∧ 0 ≤ v ∧ v < ch := ⟨_, rfl, Int.emod_nonneg _ (by omega), Int.emod_lt_of_pos _ (by omega)⟩
            refine z_irem C0 (v := v30) ⟨⟨by omega, by omega⟩, ⟨by omega, by omega⟩, hev30⟩ dL_drawn_155 ?_
            clear hev30
            refine z_invSH (As := [.ref (ad 0), .int (zI v30)]) (rest := []) C0 Wd hst (hq_addHare l g [] ad M9135 F9135 hL9135 v30 (zR_mk (by omega) (by omega)) ) hs_addHare zk_606 rfl hl.1 rfl (Nat.le_of_ble_eq_true rfl) (by decide) ⟨by show _ ≤ 452; omega, by show _ ≤ 19682; omega⟩ dL_drawn_156 (fun k31 M31 F31 H locs hr31 hp31 Wd => ?_)
            obtain ⟨m31, V31, U31, hL31, hA31, hB31, hK31, hC31⟩ := dq_AH hL9135 hp31 ⟨by omega, by omega⟩ (by omega)
            clear hp31
            refine z_iload C0 hl 5 rfl dL_drawn_159 ?_
            refine z_icmp_eq C0 (tgt := 166) hr31 (zR_mk (by omega) (by omega)) dL_drawn_161 (by decide) (fun c32 => ?_) (fun h9 => (by exfalso; omega))
            refine z_iinc C0 hl 5 (t := (k135 : Int)) (u := ((k135 : Int) + 1)) rfl (by omega) [(5, .int (zI ((k135 : Int) + 1))), (0, .ref b), (1, .ref (ad 0)), (2, .int (zI v0)), (3, .int (zI ch)), (4, .int (zI hs))] (by decide) rfl dL_drawn_166 (fun ls hl => ?_)
            refine z_goto C0 (tgt := 135) dL_drawn_169 (by decide) ?_
            refine W.widen (k := (1 * (k135 + 1) + 411)) (n := (6 * (k135 + 1) + 19436)) (by omega) (by omega) ?_
            exact ih135 (k135 + 1) (by omega) m31 V31 U31 M31 F31 hL31 (by first | assumption | omega) (by first | assumption | omega) (by first | assumption | omega) _ _ _ Wd (lv_sub hl [1, 2, 3, 4, 5, 0] rfl)
      refine W.widen (k := (1 * 0 + 411)) (n := (6 * 0 + 19436)) (by omega) (by omega) ?_
      exact lp135 (hs).toNat 0 (by omega) m60 V60 U60 M9060 F9060 hL9060 (by first | assumption | omega | rfl) (by first | assumption | omega | rfl) (by first | assumption | omega | rfl) _ _ _ Wd (lv_sub hl [1, 2, 3, 4, 5, 0] rfl)
    have lp60 : ∀ (d60 k60 : Nat) (hk60 : (k60 : Int) + d60 = (2 + v0 / 64 % 6)) (m60 : Int) (V60 : Int → Int) (U60 : Int → Int → Int) (M9060 F9060 : zMem) (hL9060 : zLw 0 m60 V60 U60 M9060 F9060) (hv60 : V60 0 = ch) (hw60 : V60 1 = 0) (hz60 : V60 3 ≤ 6 + (k60 : Int)) (H : Heap) (locs : List Loc) (ls : Array Slot) (Wd : zW g (va_A [] s.heap.size) s.heap (0, 398, []) ad M9060 F9060 H locs) (hl : lv_has ls 9 [(0, .ref b), (1, .ref (ad 0)), (2, .int (zI v0)), (3, .int (zI ch)), (4, .int (zI hs)), (5, .int (zI (k60 : Int)))]), W p l e (zrm 14 452 19682) s m args below meth c H locs (1 * k60 + 404) (6 * k60 + 19394) (rMQ below g [] (fun v w1 => ∃ (ad : Int → Nat) (M F : zMem) (t many : Int) (V : Int → Int) (U : Int → Int → Int), v = some (.ref (ad 0)) ∧ w1 = wl g (0, 398, []) ad M F ∧ zRM M ∧ zLw t many V U M F ∧ t ≤ 800 ∧ 2 ≤ V 0 ∧ V 0 ≤ 6 ∧ V 3 ≤ 30) args s 452 19682) (F0 m 60 ls []) := by
      intro d60
      induction d60 with
      | zero =>
        intro k60 hk60 m60 V60 U60 M9060 F9060 hL9060 hv60 hw60 hz60 H locs ls Wd hl
        refine z_iload C0 hl 5 rfl dL_drawn_60 ?_
        refine z_iconst C0 dL_drawn_62 ?_
        refine z_iload_n C0 hl 2 rfl dL_drawn_63 ?_
        refine z_bipush C0 dL_drawn_64 (by decide) ?_
        refine z_iushr C0 (v := (v0 / 64)) (zus_d 6 (by omega) (by omega) ⟨by decide, by decide⟩ rfl) dL_drawn_66 ?_
        refine z_bipush C0 dL_drawn_67 (by decide) ?_
        refine z_irem C0 (v := ((v0 / 64) % 6)) ⟨⟨by omega, by omega⟩, ⟨by omega, by omega⟩, rfl⟩ dL_drawn_69 ?_
        refine z_iadd C0 dL_drawn_70 ?_
        refine z_icmp_ge C0 (tgt := 132) (zR_mk (by omega) (by omega)) (zR_mk (by omega) (by omega)) dL_drawn_71 (by decide) (fun c33 => ?_) (fun c33 => ?_)
        · skip
          refine W.widen (k := (411)) (n := (19436)) (by omega) (by omega) ?_
          exact aft60 k60 (by omega) m60 V60 U60 M9060 F9060 hL9060 (by first | assumption | omega) (by first | assumption | omega) (by first | assumption | omega) (by first | assumption | omega) _ _ _ Wd (lv_sub hl [0, 1, 2, 3, 4, 5] rfl)
        · skip
          exfalso; omega
      | succ d60 ih60 =>
        intro k60 hk60 m60 V60 U60 M9060 F9060 hL9060 hv60 hw60 hz60 H locs ls Wd hl
        refine z_iload C0 hl 5 rfl dL_drawn_60 ?_
        refine z_iconst C0 dL_drawn_62 ?_
        refine z_iload_n C0 hl 2 rfl dL_drawn_63 ?_
        refine z_bipush C0 dL_drawn_64 (by decide) ?_
        refine z_iushr C0 (v := (v0 / 64)) (zus_d 6 (by omega) (by omega) ⟨by decide, by decide⟩ rfl) dL_drawn_66 ?_
        refine z_bipush C0 dL_drawn_67 (by decide) ?_
        refine z_irem C0 (v := ((v0 / 64) % 6)) ⟨⟨by omega, by omega⟩, ⟨by omega, by omega⟩, rfl⟩ dL_drawn_69 ?_
        refine z_iadd C0 dL_drawn_70 ?_
        refine z_icmp_ge C0 (tgt := 132) (zR_mk (by omega) (by omega)) (zR_mk (by omega) (by omega)) dL_drawn_71 (by decide) (fun c34 => ?_) (fun c34 => ?_)
        · skip
          exfalso; omega
        · skip
          refine z_aload_n C0 hl 0 rfl dL_drawn_74 ?_
          refine z_iconst C0 dL_drawn_75 ?_
          refine z_iload C0 hl 5 rfl dL_drawn_76 ?_
          refine z_iadd C0 dL_drawn_78 ?_
          refine z_invSx (As := [.ref b, .int (zI (1 + (k60 : Int)))]) (rest := []) C0 Wd (lw_cell l g [] ad M9060 F9060 b L xs hL9 (1 + (k60 : Int)) ⟨by omega, by omega⟩) ks_L_cell hXk hX zk_370 rfl hl.1 rfl (Nat.le_of_ble_eq_true rfl) (by decide) ⟨by show _ ≤ 452; omega, by show _ ≤ 19682; omega⟩ dL_drawn_79 (z_kki (fun k35 M35 F35 H locs hr35 hp35 Wd => ?_))
          obtain ⟨rfl, he35, hf35⟩ := hp35
          rw [he35, hf35] at Wd
          clear he35 hf35
          refine z_iconst C0 dL_drawn_82 ?_
          obtain ⟨v36, hev36, hbv36, hcv36⟩ := zus_1 (zcl xs L (1 + (k60 : Int)))
          refine z_iushr C0 (v := v36) hev36 dL_drawn_83 ?_
          refine z_istore C0 hl [(6, .int (zI v36)), (0, .ref b), (1, .ref (ad 0)), (2, .int (zI v0)), (3, .int (zI ch)), (4, .int (zI hs)), (5, .int (zI (k60 : Int)))] (by decide) rfl dL_drawn_84 (fun ls hl => ?_)
          refine z_aload_n C0 hl 2 rfl dL_drawn_86 ?_
          refine z_iload C0 hl 0 rfl dL_drawn_87 ?_
          refine z_iload_n C0 hl 4 rfl dL_drawn_89 ?_
          obtain ⟨v37, hev37, hbv37, hcv37⟩ : ∃ v, v36 % ch = v ∧ 0 ≤ v ∧ v < ch := ⟨_, rfl, Int.emod_nonneg _ (by omega), Int.emod_lt_of_pos _ (by omega)⟩
          refine z_irem C0 (v := v37) ⟨⟨by omega, by omega⟩, ⟨by omega, by omega⟩, hev37⟩ dL_drawn_90 ?_
          clear hev37
          refine z_iload C0 hl 0 rfl dL_drawn_91 ?_
          refine z_iconst C0 dL_drawn_93 ?_
          refine z_iushr C0 (v := (v36 / 16)) (zus_d 4 (by omega) (by omega) ⟨by decide, by decide⟩ rfl) dL_drawn_94 ?_
          refine z_iload_n C0 hl 4 rfl dL_drawn_95 ?_
          obtain ⟨v38, hev38, hbv38, hcv38⟩ : ∃ v, (v36 / 16) % ch = v ∧ 0 ≤ v ∧ v < ch := ⟨_, rfl, Int.emod_nonneg _ (by omega), Int.emod_lt_of_pos _ (by omega)⟩
          refine z_irem C0 (v := v38) ⟨⟨by omega, by omega⟩, ⟨by omega, by omega⟩, hev38⟩ dL_drawn_96 ?_
          clear hev38
          refine z_iconst C0 dL_drawn_97 ?_
          refine z_iload C0 hl 0 rfl dL_drawn_98 ?_
          refine z_bipush C0 dL_drawn_100 (by decide) ?_
          refine z_iushr C0 (v := (v36 / 256)) (zus_d 8 (by omega) (by omega) ⟨by decide, by decide⟩ rfl) dL_drawn_102 ?_
          have jn115 : ∀ (z3 : Int) (M8115 F8115 : zMem) (hL8115 : zLw 0 m60 V60 U60 M8115 F8115) (hz3 : 3 ≤ z3 ∧ z3 ≤ 9) (H : Heap) (locs : List Loc) (ls : Array Slot) (Wd : zW g (va_A [] s.heap.size) s.heap (0, 398, []) ad M8115 F8115 H locs) (hl : lv_has ls 9 [(0, .ref b), (1, .ref (ad 0)), (2, .int (zI v0)), (3, .int (zI ch)), (4, .int (zI hs)), (5, .int (zI (k60 : Int))), (6, .int (zI v36))]), W p l e (zrm 14 452 19682) s m args below meth c H locs (1 * k60 + 404) (6 * k60 + 19394) (rMQ below g [] (fun v w1 => ∃ (ad : Int → Nat) (M F : zMem) (t many : Int) (V : Int → Int) (U : Int → Int → Int), v = some (.ref (ad 0)) ∧ w1 = wl g (0, 398, []) ad M F ∧ zRM M ∧ zLw t many V U M F ∧ t ≤ 800 ∧ 2 ≤ V 0 ∧ V 0 ≤ 6 ∧ V 3 ≤ 30) args s 452 19682) (F0 m 115 ls [.int (zI z3), .int (zI (v36 / 256)), .int (zI 1), .int (zI v38), .int (zI v37), .ref (ad 0)]) := by
            intro z3 M8115 F8115 hL8115 hz3 H locs ls Wd hl
            obtain ⟨v39, hev39, hbv39, hcv39⟩ : ∃ v, (v36 / 256) % z3 = v ∧ 0 ≤ v ∧ v < z3 := ⟨_, rfl, Int.emod_nonneg _ (by omega), Int.emod_lt_of_pos _ (by omega)⟩
            refine z_irem C0 (v := v39) ⟨⟨by omega, by omega⟩, ⟨by omega, by omega⟩, hev39⟩ dL_drawn_115 ?_
            clear hev39
            refine z_iadd C0 dL_drawn_116 ?_
            refine z_invSH (As := [.ref (ad 0), .int (zI v37), .int (zI v38), .int (zI (1 + v39))]) (rest := []) C0 Wd hst (hq_addTunnel l g [] ad M8115 F8115 hL8115 v37 (zR_mk (by omega) (by omega)) v38 (zR_mk (by omega) (by omega)) (1 + v39) (zR_mk (by omega) (by omega)) ) hs_addTunnel zk_557 rfl hl.1 rfl (Nat.le_of_ble_eq_true rfl) (by decide) ⟨by show _ ≤ 452; omega, by show _ ≤ 19682; omega⟩ dL_drawn_117 (fun k40 M40 F40 H locs hr40 hp40 Wd => ?_)
            obtain ⟨m40, V40, U40, hL40, hA40, hB40, hK40, hC40⟩ := dq_AT hL8115 hp40 ⟨by omega, by omega⟩ ⟨by omega, by omega⟩
            clear hp40
            refine z_iconst C0 dL_drawn_120 ?_
            refine z_icmp_ne C0 (tgt := 126) hr40 (zR_mk (by decide) (by decide)) dL_drawn_121 (by decide) (fun c41 => ?_) (fun h9 => (by exfalso; omega))
            refine z_iinc C0 hl 5 (t := (k60 : Int)) (u := ((k60 : Int) + 1)) rfl (by omega) [(5, .int (zI ((k60 : Int) + 1))), (0, .ref b), (1, .ref (ad 0)), (2, .int (zI v0)), (3, .int (zI ch)), (4, .int (zI hs)), (6, .int (zI v36))] (by decide) rfl dL_drawn_126 (fun ls hl => ?_)
            refine z_goto C0 (tgt := 60) dL_drawn_129 (by decide) ?_
            refine W.widen (k := (1 * (k60 + 1) + 404)) (n := (6 * (k60 + 1) + 19394)) (by omega) (by omega) ?_
            exact ih60 (k60 + 1) (by omega) m40 V40 U40 M40 F40 hL40 (by first | assumption | omega) (by first | assumption | omega) (by first | assumption | omega) _ _ _ Wd (lv_sub hl [1, 2, 3, 4, 5, 0] rfl)
          refine z_iload_n C0 hl 3 rfl dL_drawn_103 ?_
          refine z_iconst C0 dL_drawn_104 ?_
          obtain ⟨v42, hev42, hbv42, hcv42⟩ : ∃ v, v0 % 3 = v ∧ 0 ≤ v ∧ v < 3 := ⟨_, rfl, Int.emod_nonneg _ (by omega), Int.emod_lt_of_pos _ (by omega)⟩
          refine z_irem C0 (v := v42) ⟨⟨by omega, by omega⟩, ⟨by omega, by omega⟩, hev42⟩ dL_drawn_105 ?_
          clear hev42
          refine z_if_ne C0 (tgt := 114) (zR_mk (by omega) (by omega)) dL_drawn_106 (by decide) (fun c43 => ?_) (fun c43 => ?_)
          · skip
            refine z_iconst C0 dL_drawn_114 ?_
            refine W.widen (k := (1 * k60 + 404)) (n := (6 * k60 + 19394)) (by omega) (by omega) ?_
            exact jn115 3 M9060 F9060 hL9060 ⟨by decide, by decide⟩ _ _ _ Wd (lv_sub hl [1, 2, 3, 4, 5, 6, 0] rfl)
          · skip
            refine z_bipush C0 dL_drawn_109 (by decide) ?_
            refine z_goto C0 (tgt := 115) dL_drawn_111 (by decide) ?_
            refine W.widen (k := (1 * k60 + 404)) (n := (6 * k60 + 19394)) (by omega) (by omega) ?_
            exact jn115 9 M9060 F9060 hL9060 ⟨by decide, by decide⟩ _ _ _ Wd (lv_sub hl [1, 2, 3, 4, 5, 6, 0] rfl)
    refine W.widen (k := (1 * 0 + 404)) (n := (6 * 0 + 19394)) (by omega) (by omega) ?_
    exact lp60 ((2 + v0 / 64 % 6)).toNat 0 (by omega) m34 V34 U34 M9034 F9034 hL9034 (by first | assumption | omega | rfl) (by first | assumption | omega | rfl) (by first | assumption | omega | rfl) _ _ _ Wd (lv_sub hl [1, 2, 3, 4, 5, 0] rfl)
  have lp34 : ∀ (d34 k34 : Nat) (hk34 : (k34 : Int) + d34 = ch) (m34 : Int) (V34 : Int → Int) (U34 : Int → Int → Int) (M9034 F9034 : zMem) (hL9034 : zLw 0 m34 V34 U34 M9034 F9034) (hv34 : V34 0 = (k34 : Int)) (hw34 : V34 1 = 0) (hz34 : V34 3 ≤ (k34 : Int)) (H : Heap) (locs : List Loc) (ls : Array Slot) (Wd : zW g (va_A [] s.heap.size) s.heap (0, 398, []) ad M9034 F9034 H locs) (hl : lv_has ls 9 [(0, .ref b), (1, .ref (ad 0)), (2, .int (zI v0)), (3, .int (zI ch)), (4, .int (zI hs)), (5, .int (zI (k34 : Int)))]), W p l e (zrm 14 452 19682) s m args below meth c H locs (1 * k34 + 398) (6 * k34 + 19358) (rMQ below g [] (fun v w1 => ∃ (ad : Int → Nat) (M F : zMem) (t many : Int) (V : Int → Int) (U : Int → Int → Int), v = some (.ref (ad 0)) ∧ w1 = wl g (0, 398, []) ad M F ∧ zRM M ∧ zLw t many V U M F ∧ t ≤ 800 ∧ 2 ≤ V 0 ∧ V 0 ≤ 6 ∧ V 3 ≤ 30) args s 452 19682) (F0 m 34 ls []) := by
    intro d34
    induction d34 with
    | zero =>
      intro k34 hk34 m34 V34 U34 M9034 F9034 hL9034 hv34 hw34 hz34 H locs ls Wd hl
      refine z_iload C0 hl 5 rfl dL_drawn_34 ?_
      refine z_iload_n C0 hl 3 rfl dL_drawn_36 ?_
      refine z_icmp_ge C0 (tgt := 57) (zR_mk (by omega) (by omega)) (zR_mk (by omega) (by omega)) dL_drawn_37 (by decide) (fun c44 => ?_) (fun c44 => ?_)
      · skip
        refine W.widen (k := (404)) (n := (19394)) (by omega) (by omega) ?_
        exact aft34 k34 (by omega) m34 V34 U34 M9034 F9034 hL9034 (by first | assumption | omega) (by first | assumption | omega) (by first | assumption | omega) (by first | assumption | omega) _ _ _ Wd (lv_sub hl [0, 1, 2, 3, 4, 5] rfl)
      · skip
        exfalso; omega
    | succ d34 ih34 =>
      intro k34 hk34 m34 V34 U34 M9034 F9034 hL9034 hv34 hw34 hz34 H locs ls Wd hl
      refine z_iload C0 hl 5 rfl dL_drawn_34 ?_
      refine z_iload_n C0 hl 3 rfl dL_drawn_36 ?_
      refine z_icmp_ge C0 (tgt := 57) (zR_mk (by omega) (by omega)) (zR_mk (by omega) (by omega)) dL_drawn_37 (by decide) (fun c45 => ?_) (fun c45 => ?_)
      · skip
        exfalso; omega
      · skip
        refine z_aload_n C0 hl 1 rfl dL_drawn_40 ?_
        refine z_invSH (As := [.ref (ad 0)]) (rest := []) C0 Wd hst (hq_addChamber l g [] ad M9034 F9034 hL9034  ) hs_addChamber zk_374 rfl hl.1 rfl (Nat.le_of_ble_eq_true rfl) (by decide) ⟨by show _ ≤ 452; omega, by show _ ≤ 19682; omega⟩ dL_drawn_41 (fun k46 M46 F46 H locs hr46 hp46 Wd => ?_)
        obtain ⟨m46, V46, U46, hL46, hA46, hB46, hK46, hC46⟩ := dq_AC hL9034 hp46 (by omega)
        clear hp46
        refine z_iload C0 hl 5 rfl dL_drawn_44 ?_
        refine z_icmp_eq C0 (tgt := 51) hr46 (zR_mk (by omega) (by omega)) dL_drawn_46 (by decide) (fun c47 => ?_) (fun h9 => (by exfalso; omega))
        refine z_iinc C0 hl 5 (t := (k34 : Int)) (u := ((k34 : Int) + 1)) rfl (by omega) [(5, .int (zI ((k34 : Int) + 1))), (0, .ref b), (1, .ref (ad 0)), (2, .int (zI v0)), (3, .int (zI ch)), (4, .int (zI hs))] (by decide) rfl dL_drawn_51 (fun ls hl => ?_)
        refine z_goto C0 (tgt := 34) dL_drawn_54 (by decide) ?_
        refine W.widen (k := (1 * (k34 + 1) + 398)) (n := (6 * (k34 + 1) + 19358)) (by omega) (by omega) ?_
        exact ih34 (k34 + 1) (by omega) m46 V46 U46 M46 F46 hL46 (by first | assumption | omega) (by first | assumption | omega) (by first | assumption | omega) _ _ _ Wd (lv_sub hl [1, 2, 3, 4, 5, 0] rfl)
  refine W.widen (k := (1 * 0 + 398)) (n := (6 * 0 + 19358)) (by omega) (by omega) ?_
  exact lp34 (ch).toNat 0 (by omega) 0 z00 (fun _ => z00) M F hL rfl rfl (Int.le_refl 0) _ _ _ Wd (lv_sub hl [5, 4, 3, 2, 1, 0] rfl)
