/-! the class's reader -/
theorem zCm_bd {w : Int} (h : zCm w) : 378 ≤ w ∧ w ≤ 394 := by
  obtain ⟨t, t0, t1, rfl⟩ := h
  omega
theorem zCS_zu {T : Int → Int} {n i j v : Int} {M : zMem} (h : zCS T n M) (h1 : i ≠ 376) (h2 : ¬ (i = 375 ∧ j = 1)) : zCS T n (zu M i j v) := ⟨(zu_row (by omega)).trans h.1, (zu_ne (by omega)).trans h.2.1, h.2.2⟩
theorem zCS_fr {T : Int → Int} {n w : Int} {M M' : zMem} (h : zCS T n M) (hw : zCm w) (hf : ∀ i, i ≠ 375 → i ≠ w → i ≠ w + 1 → M' i = M i) (h5 : ∀ j, j ≠ 5 → M' 375 j = M 375 j) : zCS T n M' := by
  have := zCm_bd hw
  exact ⟨(hf 376 (by omega) (by omega) (by omega)).trans h.1, (h5 1 (by omega)).trans h.2.1, h.2.2⟩
theorem zst_neg {T : Int → Int} {n c q : Int} (h0 : 0 ≤ q) (h : zst T n c q < 0) : zps (zst T n c q) = q := by
  by_cases c1 : c = 35
  · subst c1
    by_cases d : zdg T n q
    · rw [zst_d h0 d] at h; omega
    · rw [zst_d0 h0 d, zps_ng h0]
  · by_cases c2 : c = 37
    · subst c2
      by_cases d : zdg T n q
      · by_cases d2 : zdg T n (q + 1)
        · rw [zst_n2 h0 d d2] at h; omega
        · rw [zst_n1 h0 d d2] at h; omega
      · rw [zst_n0 h0 d, zps_ng h0]
    · by_cases d : q < n ∧ T q = c
      · rw [zst_s1 h0 c1 c2 d] at h; omega
      · rw [zst_s0 h0 c1 c2 d, zps_ng h0]
theorem z_re {g : zG} {p : Program} {l : Launch} {e : Env} {R : Room} {s : State} {m : MethodId} {args : Array Value} {below : List Frame} {meth : Method} {c : Code} {H : Heap} {locs : List Loc} {cells slots : Nat} {Q : State → Prop} {pc : Nat} {ls : Array Slot} {rest : List Value} {i j : Int} (h : i = j) (k : W p l e R s m args below meth c H locs cells slots Q (F0 m pc ls (.ref (g.2.2.2 j) :: rest))) : W p l e R s m args below meth c H locs cells slots Q (F0 m pc ls (.ref (g.2.2.2 i) :: rest)) := by
  rw [h]
  exact k
/-- what readForm brings -/
def zRF (T : Int → Int) (n f a w : Int) (M F : zMem) (r : Int) (M' F' : zMem) : Prop :=
  zb (0 ≤ zfw T n (ztl (zFq f)) a) = r ∧ M' 375 5 = zps (zfw T n (ztl (zFq f)) a) ∧ F' = zu F w 0 f ∧ (∀ i, i ≠ 375 → i ≠ w → i ≠ w + 1 → M' i = M i) ∧ (∀ j, j ≠ 5 → M' 375 j = M 375 j) ∧
  (0 ≤ zfw T n (ztl (zFq f)) a → ∀ i : Nat, i < (zFq f).2.2.length → (ztx (zFq f) (i : Int) = 35 ∨ ztx (zFq f) (i : Int) = 37) → M' (w + 1) (zct (zFq f) i) = znv T n (ztx (zFq f) (i : Int)) (zfs T n (ztx (zFq f)) i a))

theorem kv_X5_isAt : zKV yX5_isAt cX5_isAt 3 (some .boolean) "DrumWarren$CommandReader" 2 := ⟨zk_1587, zk_1586, zk_22, zk_32, by decide, by decide, by decide +kernel⟩
set_option maxHeartbeats 4000000 in
set_option maxRecDepth 100000 in
theorem ct_X5_isAt (l : Launch) (g : zG) (zX : va_W) (ad : Int → Nat) (zM0 zF0 : zMem) (T : Int → Int) (n : Int) (x0 : Int) (hx0 : zR x0) (x1 : Int) (hx1 : zR x1) (hC : zCS T n zM0) (hT : ∀ j, 0 ≤ T j ∧ T j < 65536) : zMt l yX5_isAt cX5_isAt 3 (some .boolean) 0 0 0 g (0, 398, zX) ad [.ref (ad 375), .int (zI x0), .int (zI x1)] zM0 zF0 (zPi (fun r M' F' => zb (0 ≤ x0 ∧ x0 < n ∧ T x0 = x1) = r ∧ zM0 = M' ∧ zF0 = F')) := by
  refine zMt.of "DrumWarren$CommandReader" rfl (by decide +kernel) (Nat.le_of_ble_eq_true rfl) (fun {p e s m args below meth c ls} C0 Wd hl hret hlk hin => ?_)
  have hl : lv_has ls 3 [(0, .ref (ad 375)), (1, .int (zI x0)), (2, .int (zI x1))] := hl
  obtain ⟨hC1, hC2, hC3⟩ := id hC
  refine z_iload_n C0 hl 1 rfl dX5_isAt_0 ?_
  refine z_if_lt C0 (tgt := 26) hx0 dX5_isAt_1 (by decide) (fun c1 => ?_) (fun c1 => ?_)
  · skip
    refine z_iconst C0 dX5_isAt_26 ?_
    exact z_zret C0 Wd hret hlk (by decide) ⟨zb_f (by omega), rfl, rfl⟩ dX5_isAt_27
  · skip
    refine z_iload_n C0 hl 1 rfl dX5_isAt_4 ?_
    refine z_aload_n C0 hl 0 rfl dX5_isAt_5 ?_
    refine zg_3_1 C0 Wd zN375 zK375 zk_288 dX5_isAt_6 ?_
    obtain ⟨he3, hz2⟩ : (zM0 375 1) = n ∧ zR n := (fun q => ⟨q, q ▸ Wd.rm _ _⟩) hC.2.1
    refine z_top (congrArg zI he3) ?_
    clear he3
    refine z_icmp_ge C0 (tgt := 26) hx0 hz2 dX5_isAt_9 (by decide) (fun c4 => ?_) (fun c4 => ?_)
    · skip
      refine z_iconst C0 dX5_isAt_26 ?_
      exact z_zret C0 Wd hret hlk (by decide) ⟨zb_f (by omega), rfl, rfl⟩ dX5_isAt_27
    · skip
      refine z_aload_n C0 hl 0 rfl dX5_isAt_12 ?_
      refine zg_3_0 C0 Wd zN375 zK375 zk_287 dX5_isAt_13 ?_
      refine z_rf (show (375 + 1) = 376 by decide) ?_
      refine z_iload_n C0 hl 1 rfl dX5_isAt_16 ?_
      refine z_cald C0 Wd zN376 zK376 zL376 (by omega) (by omega) (by decide) dX5_isAt_17 ?_
      obtain ⟨he6, hz5⟩ : (zM0 376 x0) = (T x0) ∧ zR (T x0) := (fun q => ⟨q, q ▸ Wd.rm _ _⟩) (congrFun hC.1 _)
      refine z_top (congrArg zI he6) ?_
      clear he6
      refine z_iload_n C0 hl 2 rfl dX5_isAt_18 ?_
      refine z_icmp_ne C0 (tgt := 26) hz5 hx1 dX5_isAt_19 (by decide) (fun c7 => ?_) (fun c7 => ?_)
      · skip
        refine z_iconst C0 dX5_isAt_26 ?_
        exact z_zret C0 Wd hret hlk (by decide) ⟨zb_f (by omega), rfl, rfl⟩ dX5_isAt_27
      · skip
        refine z_iconst C0 dX5_isAt_22 ?_
        refine z_goto C0 (tgt := 27) dX5_isAt_23 (by decide) ?_
        exact z_zret C0 Wd hret hlk (by decide) ⟨zb_t (by omega), rfl, rfl⟩ dX5_isAt_27
theorem kv_X5_isDigitAt : zKV yX5_isDigitAt cX5_isDigitAt 2 (some .boolean) "DrumWarren$CommandReader" 1 := ⟨zk_1571, zk_1570, zk_19, zk_32, by decide, by decide, by decide +kernel⟩
set_option maxHeartbeats 4000000 in
set_option maxRecDepth 100000 in
theorem ct_X5_isDigitAt (l : Launch) (g : zG) (zX : va_W) (ad : Int → Nat) (zM0 zF0 : zMem) (T : Int → Int) (n : Int) (x0 : Int) (hx0 : zR x0) (hC : zCS T n zM0) (hT : ∀ j, 0 ≤ T j ∧ T j < 65536) : zMt l yX5_isDigitAt cX5_isDigitAt 2 (some .boolean) 0 0 0 g (0, 398, zX) ad [.ref (ad 375), .int (zI x0)] zM0 zF0 (zPi (fun r M' F' => zb (0 ≤ x0 ∧ zdg T n x0) = r ∧ zM0 = M' ∧ zF0 = F')) := by
  refine zMt.of "DrumWarren$CommandReader" rfl (by decide +kernel) (Nat.le_of_ble_eq_true rfl) (fun {p e s m args below meth c ls} C0 Wd hl hret hlk hin => ?_)
  have hl : lv_has ls 2 [(0, .ref (ad 375)), (1, .int (zI x0))] := hl
  obtain ⟨hC1, hC2, hC3⟩ := id hC
  refine z_iload_n C0 hl 1 rfl dX5_isDigitAt_0 ?_
  refine z_if_lt C0 (tgt := 38) hx0 dX5_isDigitAt_1 (by decide) (fun c1 => ?_) (fun c1 => ?_)
  · skip
    refine z_iconst C0 dX5_isDigitAt_38 ?_
    exact z_zret C0 Wd hret hlk (by decide) ⟨zb_f (fun z => by obtain ⟨z0, z1, z2, z3⟩ := z; omega), rfl, rfl⟩ dX5_isDigitAt_39
  · skip
    refine z_iload_n C0 hl 1 rfl dX5_isDigitAt_4 ?_
    refine z_aload_n C0 hl 0 rfl dX5_isDigitAt_5 ?_
    refine zg_3_1 C0 Wd zN375 zK375 zk_288 dX5_isDigitAt_6 ?_
    obtain ⟨he3, hz2⟩ : (zM0 375 1) = n ∧ zR n := (fun q => ⟨q, q ▸ Wd.rm _ _⟩) hC.2.1
    refine z_top (congrArg zI he3) ?_
    clear he3
    refine z_icmp_ge C0 (tgt := 38) hx0 hz2 dX5_isDigitAt_9 (by decide) (fun c4 => ?_) (fun c4 => ?_)
    · skip
      refine z_iconst C0 dX5_isDigitAt_38 ?_
      exact z_zret C0 Wd hret hlk (by decide) ⟨zb_f (fun z => by obtain ⟨z0, z1, z2, z3⟩ := z; omega), rfl, rfl⟩ dX5_isDigitAt_39
    · skip
      refine z_aload_n C0 hl 0 rfl dX5_isDigitAt_12 ?_
      refine zg_3_0 C0 Wd zN375 zK375 zk_287 dX5_isDigitAt_13 ?_
      refine z_rf (show (375 + 1) = 376 by decide) ?_
      refine z_iload_n C0 hl 1 rfl dX5_isDigitAt_16 ?_
      refine z_cald C0 Wd zN376 zK376 zL376 (by omega) (by omega) (by decide) dX5_isDigitAt_17 ?_
      obtain ⟨he6, hz5⟩ : (zM0 376 x0) = (T x0) ∧ zR (T x0) := (fun q => ⟨q, q ▸ Wd.rm _ _⟩) (congrFun hC.1 _)
      refine z_top (congrArg zI he6) ?_
      clear he6
      refine z_bipush C0 dX5_isDigitAt_18 (by decide) ?_
      refine z_icmp_lt C0 (tgt := 38) hz5 (zR_mk (by decide) (by decide)) dX5_isDigitAt_20 (by decide) (fun c7 => ?_) (fun c7 => ?_)
      · skip
        refine z_iconst C0 dX5_isDigitAt_38 ?_
        exact z_zret C0 Wd hret hlk (by decide) ⟨zb_f (fun z => by obtain ⟨z0, z1, z2, z3⟩ := z; omega), rfl, rfl⟩ dX5_isDigitAt_39
      · skip
        refine z_aload_n C0 hl 0 rfl dX5_isDigitAt_23 ?_
        refine zg_3_0 C0 Wd zN375 zK375 zk_287 dX5_isDigitAt_24 ?_
        refine z_rf (show (375 + 1) = 376 by decide) ?_
        refine z_iload_n C0 hl 1 rfl dX5_isDigitAt_27 ?_
        refine z_cald C0 Wd zN376 zK376 zL376 (by omega) (by omega) (by decide) dX5_isDigitAt_28 ?_
        obtain ⟨he9, hz8⟩ : (zM0 376 x0) = (T x0) ∧ zR (T x0) := (fun q => ⟨q, q ▸ Wd.rm _ _⟩) (congrFun hC.1 _)
        refine z_top (congrArg zI he9) ?_
        clear he9
        refine z_bipush C0 dX5_isDigitAt_29 (by decide) ?_
        refine z_icmp_gt C0 (tgt := 38) hz8 (zR_mk (by decide) (by decide)) dX5_isDigitAt_31 (by decide) (fun c10 => ?_) (fun c10 => ?_)
        · skip
          refine z_iconst C0 dX5_isDigitAt_38 ?_
          exact z_zret C0 Wd hret hlk (by decide) ⟨zb_f (fun z => by obtain ⟨z0, z1, z2, z3⟩ := z; omega), rfl, rfl⟩ dX5_isDigitAt_39
        · skip
          refine z_iconst C0 dX5_isDigitAt_34 ?_
          refine z_goto C0 (tgt := 39) dX5_isDigitAt_35 (by decide) ?_
          exact z_zret C0 Wd hret hlk (by decide) ⟨zb_t ⟨by omega, show x0 < n ∧ 48 ≤ T x0 ∧ T x0 ≤ 57 from ⟨by omega, by omega, by omega⟩⟩, rfl, rfl⟩ dX5_isDigitAt_39
theorem kv_X5_digitAt : zKV yX5_digitAt cX5_digitAt 2 (some .int) "DrumWarren$CommandReader" 1 := ⟨zk_1575, zk_1574, zk_20, zk_32, by decide, by decide, by decide +kernel⟩
set_option maxHeartbeats 4000000 in
set_option maxRecDepth 100000 in
theorem ct_X5_digitAt (l : Launch) (g : zG) (zX : va_W) (ad : Int → Nat) (zM0 zF0 : zMem) (T : Int → Int) (n : Int) (x0 : Int) (hx0 : zR x0) (hC : zCS T n zM0) (hT : ∀ j, 0 ≤ T j ∧ T j < 65536) (hd : 0 ≤ x0 ∧ zdg T n x0) : zMt l yX5_digitAt cX5_digitAt 2 (some .int) 1 0 0 g (0, 398, zX) ad [.ref (ad 375), .int (zI x0)] zM0 zF0 (zPi (fun r M' F' => (T x0 - 48) = r ∧ zM0 = M' ∧ zF0 = F')) := by
  refine zMt.of "DrumWarren$CommandReader" rfl (by decide +kernel) (Nat.le_of_ble_eq_true rfl) (fun {p e s m args below meth c ls} C0 Wd hl hret hlk hin => ?_)
  have hl : lv_has ls 2 [(0, .ref (ad 375)), (1, .int (zI x0))] := hl
  obtain ⟨hC1, hC2, hC3⟩ := id hC
  have hd1 := hd.2.1
  have hd2 := hd.2.2
  refine z_aload_n C0 hl 0 rfl dX5_digitAt_0 ?_
  refine z_iload_n C0 hl 1 rfl dX5_digitAt_1 ?_
  refine z_invVi (As := [.int (zI x0)]) (rest := []) C0 Wd (ct_X5_isDigitAt l g zX ad zM0 zF0 T n x0 hx0 hC hT) kv_X5_isDigitAt zN375 (zE_3 zK375) rfl zk_1568 rfl hl.1 rfl (Nat.le_of_ble_eq_true rfl) (by decide) (by decide) dX5_digitAt_2 (fun r1 zMr1 zFr1 H locs hrr1 hp Wd => ?_)
  obtain ⟨rfl, rfl, rfl⟩ := hp
  refine z_if_eq_b C0 (tgt := 20) dX5_digitAt_5 (by decide) (fun c3 => absurd c3 (fun z => z hd)) (fun c3 => ?_)
  refine z_aload_n C0 hl 0 rfl dX5_digitAt_8 ?_
  refine zg_3_0 C0 Wd zN375 zK375 zk_287 dX5_digitAt_9 ?_
  refine z_rf (show (375 + 1) = 376 by decide) ?_
  refine z_iload_n C0 hl 1 rfl dX5_digitAt_12 ?_
  refine z_cald C0 Wd zN376 zK376 zL376 (by omega) (by omega) (by decide) dX5_digitAt_13 ?_
  obtain ⟨he5, hz4⟩ : (zM0 376 x0) = (T x0) ∧ zR (T x0) := (fun q => ⟨q, q ▸ Wd.rm _ _⟩) (congrFun hC.1 _)
  refine z_top (congrArg zI he5) ?_
  clear he5
  refine z_bipush C0 dX5_digitAt_14 (by decide) ?_
  refine z_isub C0 dX5_digitAt_16 ?_
  refine z_goto C0 (tgt := 21) dX5_digitAt_17 (by decide) ?_
  exact z_iret C0 Wd hret hlk (by have q0 := hz4.1; have p0 := hz4.2; exact zR_mk (by omega) (by omega)) ⟨by first | rfl | (simp only [zb]; first | rfl | (split <;> omega) | omega) | (simp [zb, *]; done) | omega, by first | rfl | (simp [zb, *]; done), rfl⟩ dX5_digitAt_21
theorem kv_X5_readSign : zKV yX5_readSign cX5_readSign 2 (some .boolean) "DrumWarren$CommandReader" 1 := ⟨zk_1583, zk_1582, zk_21, zk_32, by decide, by decide, by decide +kernel⟩
set_option maxHeartbeats 4000000 in
set_option maxRecDepth 100000 in
theorem ct_X5_readSign (l : Launch) (g : zG) (zX : va_W) (ad : Int → Nat) (zM0 zF0 : zMem) (T : Int → Int) (n q0 : Int) (x0 : Int) (hx0 : zR x0) (hC : zCS T n zM0) (hT : ∀ j, 0 ≤ T j ∧ T j < 65536) (hq : zM0 375 5 = q0 ∧ 0 ≤ q0 ∧ q0 ≤ n) : zMt l yX5_readSign cX5_readSign 2 (some .boolean) 1 0 0 g (0, 398, zX) ad [.ref (ad 375), .int (zI x0)] zM0 zF0 (zPi (fun r M' F' => ((¬ (q0 < n ∧ T q0 = x0)) ∧ 0 = r ∧ zM0 = M' ∧ zF0 = F') ∨ (((q0 < n ∧ T q0 = x0)) ∧ 1 = r ∧ (zu zM0 375 5 (q0 + 1)) = M' ∧ zF0 = F'))) := by
  refine zMt.of "DrumWarren$CommandReader" rfl (by decide +kernel) (Nat.le_of_ble_eq_true rfl) (fun {p e s m args below meth c ls} C0 Wd hl hret hlk hin => ?_)
  have hl : lv_has ls 2 [(0, .ref (ad 375)), (1, .int (zI x0))] := hl
  obtain ⟨hC1, hC2, hC3⟩ := id hC
  refine z_aload_n C0 hl 0 rfl dX5_readSign_0 ?_
  refine z_aload_n C0 hl 0 rfl dX5_readSign_1 ?_
  refine zg_3_5 C0 Wd zN375 zK375 zk_296 dX5_readSign_2 ?_
  obtain ⟨he2, hz1⟩ : (zM0 375 5) = q0 ∧ zR q0 := (fun q => ⟨q, q ▸ Wd.rm _ _⟩) hq.1
  refine z_top (congrArg zI he2) ?_
  clear he2
  refine z_iload_n C0 hl 1 rfl dX5_readSign_5 ?_
  refine z_invVi (As := [.int (zI q0), .int (zI x0)]) (rest := []) C0 Wd (ct_X5_isAt l g zX ad zM0 zF0 T n q0 hz1 x0 hx0 hC hT) kv_X5_isAt zN375 (zE_3 zK375) rfl zk_1584 rfl hl.1 rfl (Nat.le_of_ble_eq_true rfl) (by decide) (by decide) dX5_readSign_6 (fun r3 zMr3 zFr3 H locs hrr3 hp Wd => ?_)
  obtain ⟨rfl, rfl, rfl⟩ := hp
  refine z_if_ne_b C0 (tgt := 14) dX5_readSign_9 (by decide) (fun c5 => ?_) (fun c5 => ?_)
  · skip
    refine z_aload_n C0 hl 0 rfl dX5_readSign_14 ?_
    refine z_dup C0 rfl dX5_readSign_15 ?_
    refine zg_3_5 C0 Wd zN375 zK375 zk_296 dX5_readSign_16 ?_
    obtain ⟨he7, hz6⟩ : (zM0 375 5) = q0 ∧ zR q0 := (fun q => ⟨q, q ▸ Wd.rm _ _⟩) hq.1
    refine z_top (congrArg zI he7) ?_
    clear he7
    refine z_iconst C0 dX5_readSign_19 ?_
    refine z_iadd C0 dX5_readSign_20 ?_
    refine zp_3_5 C0 Wd zN375 zK375 (by have q0 := hz6.1; have p0 := hz6.2; exact zR_mk (by omega) (by omega)) zk_296 dX5_readSign_21 (fun H locs Wd => ?_)
    refine z_iconst C0 dX5_readSign_24 ?_
    exact z_zret C0 Wd hret hlk (by decide) (by first | exact (Or.inl ⟨(by first | assumption | omega), (by first | rfl | omega), (by first | rfl | (simp [zb, *]; done)), rfl⟩) | exact (Or.inr ⟨(by first | assumption | omega), (by first | rfl | omega), (by first | rfl | (simp [zb, *]; done)), rfl⟩)) dX5_readSign_25
  · skip
    refine z_iconst C0 dX5_readSign_12 ?_
    exact z_zret C0 Wd hret hlk (by decide) (by first | exact (Or.inl ⟨(by first | assumption | omega), (by first | rfl | omega), (by first | rfl | (simp [zb, *]; done)), rfl⟩) | exact (Or.inr ⟨(by first | assumption | omega), (by first | rfl | omega), (by first | rfl | (simp [zb, *]; done)), rfl⟩)) dX5_readSign_13
theorem kv_X3_addArgument : zKV yX3_addArgument cX3_addArgument 2 none "DrumWarren$Command" 1 := ⟨zk_1579, zk_1577, zk_1578, zk_33, by decide, by decide, by decide +kernel⟩
set_option maxHeartbeats 4000000 in
set_option maxRecDepth 100000 in
theorem ct_X3_addArgument (l : Launch) (g : zG) (zX : va_W) (ad : Int → Nat) (zM0 zF0 : zMem) (w c0 : Int) (hcw : zCm w) (x0 : Int) (hx0 : zR x0) (h3 : zM0 w 2 = c0 ∧ 0 ≤ c0 ∧ c0 < 3) : zMt l yX3_addArgument cX3_addArgument 2 none 0 0 0 g (0, 398, zX) ad [.ref (ad w), .int (zI x0)] zM0 zF0 (zPv (fun M' F' => (zu (zu zM0 (w + 1) c0 x0) w 2 (c0 + 1)) = M' ∧ zF0 = F')) := by
  refine zMt.of "DrumWarren$Command" rfl (by decide +kernel) (Nat.le_of_ble_eq_true rfl) (fun {p e s m args below meth c ls} C0 Wd hl hret hlk hin => ?_)
  have hl : lv_has ls 2 [(0, .ref (ad w)), (1, .int (zI x0))] := hl
  have hwb := zCm_bd hcw
  refine z_aload_n C0 hl 0 rfl dX3_addArgument_0 ?_
  refine zg_2_2 C0 Wd (znQ hcw) (zkQ hcw) zk_277 dX3_addArgument_1 ?_
  obtain ⟨he2, hz1⟩ : (zM0 w 2) = c0 ∧ zR c0 := (fun q => ⟨q, q ▸ Wd.rm _ _⟩) h3.1
  refine z_top (congrArg zI he2) ?_
  clear he2
  refine z_if_lt C0 (tgt := 35) hz1 dX3_addArgument_4 (by decide) (fun c3 => absurd c3 (by omega)) (fun c3 => ?_)
  refine z_aload_n C0 hl 0 rfl dX3_addArgument_7 ?_
  refine zg_2_2 C0 Wd (znQ hcw) (zkQ hcw) zk_277 dX3_addArgument_8 ?_
  obtain ⟨he5, hz4⟩ : (zM0 w 2) = c0 ∧ zR c0 := (fun q => ⟨q, q ▸ Wd.rm _ _⟩) h3.1
  refine z_top (congrArg zI he5) ?_
  clear he5
  refine z_iconst C0 dX3_addArgument_11 ?_
  refine z_icmp_ge C0 (tgt := 35) hz4 (zR_mk (by decide) (by decide)) dX3_addArgument_12 (by decide) (fun c6 => absurd c6 (by omega)) (fun c6 => ?_)
  refine z_aload_n C0 hl 0 rfl dX3_addArgument_15 ?_
  refine zg_2_1 C0 Wd (znQ hcw) (zkQ hcw) zk_275 dX3_addArgument_16 ?_
  refine z_aload_n C0 hl 0 rfl dX3_addArgument_19 ?_
  refine zg_2_2 C0 Wd (znQ hcw) (zkQ hcw) zk_277 dX3_addArgument_20 ?_
  obtain ⟨he8, hz7⟩ : (zM0 w 2) = c0 ∧ zR c0 := (fun q => ⟨q, q ▸ Wd.rm _ _⟩) h3.1
  refine z_top (congrArg zI he8) ?_
  clear he8
  refine z_iload_n C0 hl 1 rfl dX3_addArgument_23 ?_
  refine z_iast C0 Wd (znQ1 hcw) (zkQ1 hcw) (zlQ1 hcw) (by omega) (by omega) (by decide) hx0 dX3_addArgument_24 (fun H locs Wd => ?_)
  refine z_aload_n C0 hl 0 rfl dX3_addArgument_25 ?_
  refine z_dup C0 rfl dX3_addArgument_26 ?_
  refine zg_2_2 C0 Wd (znQ hcw) (zkQ hcw) zk_277 dX3_addArgument_27 ?_
  obtain ⟨he10, hz9⟩ : ((zu zM0 (w + 1) c0 x0) w 2) = c0 ∧ zR c0 := (fun q => ⟨q, q ▸ Wd.rm _ _⟩) ((zu_ne (by omega)).trans h3.1)
  refine z_top (congrArg zI he10) ?_
  clear he10
  refine z_iconst C0 dX3_addArgument_30 ?_
  refine z_iadd C0 dX3_addArgument_31 ?_
  refine zp_2_2 C0 Wd (znQ hcw) (zkQ hcw) (by have q0 := hz9.1; have p0 := hz9.2; exact zR_mk (by omega) (by omega)) zk_277 dX3_addArgument_32 (fun H locs Wd => ?_)
  exact z_vret C0 Wd hret hlk ⟨rfl, rfl⟩ dX3_addArgument_35
theorem kv_X5_readNumber : zKV yX5_readNumber cX5_readNumber 4 (some .boolean) "DrumWarren$CommandReader" 2 := ⟨zk_1567, zk_1566, zk_18, zk_32, by decide, by decide, by decide +kernel⟩
set_option maxHeartbeats 4000000 in
set_option maxRecDepth 100000 in
theorem ct_X5_readNumber_0 (l : Launch) (g : zG) (zX : va_W) (ad : Int → Nat) (zM0 zF0 : zMem) (T : Int → Int) (n q0 : Int) (w c0 : Int) (hcw : zCm w) (x0 : Int) (hx0 : zR x0) (hC : zCS T n zM0) (hT : ∀ j, 0 ≤ T j ∧ T j < 65536) (hq : zM0 375 5 = q0 ∧ 0 ≤ q0 ∧ q0 ≤ n) (h3 : zM0 w 2 = c0 ∧ 0 ≤ c0 ∧ c0 < 3) (hx : x0 = 0) : zMt l yX5_readNumber cX5_readNumber 4 (some .boolean) 3 0 0 g (0, 398, zX) ad [.ref (ad 375), .int (zI x0), .ref (ad w)] zM0 zF0 (zPi (fun r M' F' => (((zst T n 35 q0 < 0)) ∧ 0 = r ∧ zM0 = M' ∧ zF0 = F') ∨ ((0 ≤ zst T n 35 q0) ∧ 1 = r ∧ (zu (zu (zu zM0 375 5 (zst T n 35 q0)) (w + 1) c0 (znv T n 35 q0)) w 2 (c0 + 1)) = M' ∧ zF0 = F'))) := by
  refine zMt.of "DrumWarren$CommandReader" rfl (by decide +kernel) (Nat.le_of_ble_eq_true rfl) (fun {p e s m args below meth c ls} C0 Wd hl hret hlk hin => ?_)
  have hl : lv_has ls 4 [(0, .ref (ad 375)), (1, .int (zI x0)), (2, .ref (ad w))] := hl
  obtain ⟨hC1, hC2, hC3⟩ := id hC
  have hwb := zCm_bd hcw
  refine z_aload_n C0 hl 0 rfl dX5_readNumber_0 ?_
  refine z_aload_n C0 hl 0 rfl dX5_readNumber_1 ?_
  refine zg_3_5 C0 Wd zN375 zK375 zk_296 dX5_readNumber_2 ?_
  obtain ⟨he2, hz1⟩ : (zM0 375 5) = q0 ∧ zR q0 := (fun q => ⟨q, q ▸ Wd.rm _ _⟩) hq.1
  refine z_top (congrArg zI he2) ?_
  clear he2
  refine z_invVi (As := [.int (zI q0)]) (rest := []) C0 Wd (ct_X5_isDigitAt l g zX ad zM0 zF0 T n q0 hz1 hC hT) kv_X5_isDigitAt zN375 (zE_3 zK375) rfl zk_1568 rfl hl.1 rfl (Nat.le_of_ble_eq_true rfl) (by decide) (by decide) dX5_readNumber_5 (fun r3 zMr3 zFr3 H locs hrr3 hp Wd => ?_)
  obtain ⟨rfl, rfl, rfl⟩ := hp
  refine z_if_ne_b C0 (tgt := 13) dX5_readNumber_8 (by decide) (fun c5 => ?_) (fun c5 => ?_)
  · skip
    have hdl6 := c5.2.1
    have hdv7 := c5.2.2
    refine z_aload_n C0 hl 0 rfl dX5_readNumber_13 ?_
    refine z_aload_n C0 hl 0 rfl dX5_readNumber_14 ?_
    refine zg_3_5 C0 Wd zN375 zK375 zk_296 dX5_readNumber_15 ?_
    obtain ⟨he9, hz8⟩ : (zM0 375 5) = q0 ∧ zR q0 := (fun q => ⟨q, q ▸ Wd.rm _ _⟩) hq.1
    refine z_top (congrArg zI he9) ?_
    clear he9
    refine z_invVi (As := [.int (zI q0)]) (rest := []) C0 Wd (ct_X5_digitAt l g zX ad zM0 zF0 T n q0 hz8 hC hT c5) kv_X5_digitAt zN375 (zE_3 zK375) rfl zk_1572 rfl hl.1 rfl (Nat.le_of_ble_eq_true rfl) (by decide) (by decide) dX5_readNumber_18 (fun r10 zMr10 zFr10 H locs hrr10 hp Wd => ?_)
    obtain ⟨rfl, rfl, rfl⟩ := hp
    refine z_istore_n C0 hl [(3, .int (zI (T q0 - 48))), (0, .ref (ad 375)), (1, .int (zI x0)), (2, .ref (ad w))] (by decide) rfl dX5_readNumber_21 (fun ls hl => ?_)
    refine z_aload_n C0 hl 1 rfl dX5_readNumber_22 ?_
    refine z_dup C0 rfl dX5_readNumber_23 ?_
    refine zg_3_5 C0 Wd zN375 zK375 zk_296 dX5_readNumber_24 ?_
    obtain ⟨he13, hz12⟩ : (zM0 375 5) = q0 ∧ zR q0 := (fun q => ⟨q, q ▸ Wd.rm _ _⟩) hq.1
    refine z_top (congrArg zI he13) ?_
    clear he13
    refine z_iconst C0 dX5_readNumber_27 ?_
    refine z_iadd C0 dX5_readNumber_28 ?_
    refine zp_3_5 C0 Wd zN375 zK375 (by have q0 := hz12.1; have p0 := hz12.2; exact zR_mk (by omega) (by omega)) zk_296 dX5_readNumber_29 (fun H locs Wd => ?_)
    refine z_iload_n C0 hl 2 rfl dX5_readNumber_32 ?_
    refine z_if_eq C0 (tgt := 71) hx0 dX5_readNumber_33 (by decide) (fun c14 => ?_) (fun c14 => absurd c14 (by omega))
    refine z_aload_n C0 hl 3 rfl dX5_readNumber_71 ?_
    refine z_iload_n C0 hl 0 rfl dX5_readNumber_72 ?_
    refine z_invVv (As := [.int (zI (T q0 - 48))]) (rest := []) C0 Wd (ct_X3_addArgument l g zX ad (zu zM0 375 5 (q0 + 1)) zF0 w c0 hcw (T q0 - 48) hrr10 ⟨((zu_ne (by omega)).trans h3.1), by omega, by omega⟩) kv_X3_addArgument (znQ hcw) (zE_2 (zkQ hcw)) rfl zk_1576 rfl hl.1 rfl (Nat.le_of_ble_eq_true rfl) (by decide) (by decide) dX5_readNumber_73 (fun zMr15 zFr15 H locs hp Wd => ?_)
    obtain ⟨rfl, rfl⟩ := hp
    refine z_iconst C0 dX5_readNumber_76 ?_
    have hz9 : zst T n 35 q0 = (q0 + 1) := zst_d (by omega) c5.2
    have hn9 : znv T n 35 q0 = (T q0 - 48) := (if_neg (fun z => absurd z.1 (by decide)))
    exact z_zret C0 Wd hret hlk (by decide) (Or.inr ⟨by rw [hz9]; omega, rfl, by rw [hz9, hn9], rfl⟩) dX5_readNumber_77
  · skip
    refine z_iconst C0 dX5_readNumber_11 ?_
    exact z_zret C0 Wd hret hlk (by decide) (Or.inl ⟨by rw [zst_d0 (by omega) (fun z => c5 ⟨by omega, z⟩)]; omega, rfl, rfl, rfl⟩) dX5_readNumber_12
set_option maxHeartbeats 4000000 in
set_option maxRecDepth 100000 in
theorem ct_X5_readNumber_1 (l : Launch) (g : zG) (zX : va_W) (ad : Int → Nat) (zM0 zF0 : zMem) (T : Int → Int) (n q0 : Int) (w c0 : Int) (hcw : zCm w) (x0 : Int) (hx0 : zR x0) (hC : zCS T n zM0) (hT : ∀ j, 0 ≤ T j ∧ T j < 65536) (hq : zM0 375 5 = q0 ∧ 0 ≤ q0 ∧ q0 ≤ n) (h3 : zM0 w 2 = c0 ∧ 0 ≤ c0 ∧ c0 < 3) (hx : x0 = 1) : zMt l yX5_readNumber cX5_readNumber 4 (some .boolean) 3 0 0 g (0, 398, zX) ad [.ref (ad 375), .int (zI x0), .ref (ad w)] zM0 zF0 (zPi (fun r M' F' => (((zst T n 37 q0 < 0)) ∧ 0 = r ∧ zM0 = M' ∧ zF0 = F') ∨ ((0 ≤ zst T n 37 q0) ∧ 1 = r ∧ (zu (zu (zu zM0 375 5 (zst T n 37 q0)) (w + 1) c0 (znv T n 37 q0)) w 2 (c0 + 1)) = M' ∧ zF0 = F'))) := by
  refine zMt.of "DrumWarren$CommandReader" rfl (by decide +kernel) (Nat.le_of_ble_eq_true rfl) (fun {p e s m args below meth c ls} C0 Wd hl hret hlk hin => ?_)
  have hl : lv_has ls 4 [(0, .ref (ad 375)), (1, .int (zI x0)), (2, .ref (ad w))] := hl
  obtain ⟨hC1, hC2, hC3⟩ := id hC
  have hwb := zCm_bd hcw
  refine z_aload_n C0 hl 0 rfl dX5_readNumber_0 ?_
  refine z_aload_n C0 hl 0 rfl dX5_readNumber_1 ?_
  refine zg_3_5 C0 Wd zN375 zK375 zk_296 dX5_readNumber_2 ?_
  obtain ⟨he2, hz1⟩ : (zM0 375 5) = q0 ∧ zR q0 := (fun q => ⟨q, q ▸ Wd.rm _ _⟩) hq.1
  refine z_top (congrArg zI he2) ?_
  clear he2
  refine z_invVi (As := [.int (zI q0)]) (rest := []) C0 Wd (ct_X5_isDigitAt l g zX ad zM0 zF0 T n q0 hz1 hC hT) kv_X5_isDigitAt zN375 (zE_3 zK375) rfl zk_1568 rfl hl.1 rfl (Nat.le_of_ble_eq_true rfl) (by decide) (by decide) dX5_readNumber_5 (fun r3 zMr3 zFr3 H locs hrr3 hp Wd => ?_)
  obtain ⟨rfl, rfl, rfl⟩ := hp
  refine z_if_ne_b C0 (tgt := 13) dX5_readNumber_8 (by decide) (fun c5 => ?_) (fun c5 => ?_)
  · skip
    have hdl6 := c5.2.1
    have hdv7 := c5.2.2
    refine z_aload_n C0 hl 0 rfl dX5_readNumber_13 ?_
    refine z_aload_n C0 hl 0 rfl dX5_readNumber_14 ?_
    refine zg_3_5 C0 Wd zN375 zK375 zk_296 dX5_readNumber_15 ?_
    obtain ⟨he9, hz8⟩ : (zM0 375 5) = q0 ∧ zR q0 := (fun q => ⟨q, q ▸ Wd.rm _ _⟩) hq.1
    refine z_top (congrArg zI he9) ?_
    clear he9
    refine z_invVi (As := [.int (zI q0)]) (rest := []) C0 Wd (ct_X5_digitAt l g zX ad zM0 zF0 T n q0 hz8 hC hT c5) kv_X5_digitAt zN375 (zE_3 zK375) rfl zk_1572 rfl hl.1 rfl (Nat.le_of_ble_eq_true rfl) (by decide) (by decide) dX5_readNumber_18 (fun r10 zMr10 zFr10 H locs hrr10 hp Wd => ?_)
    obtain ⟨rfl, rfl, rfl⟩ := hp
    refine z_istore_n C0 hl [(3, .int (zI (T q0 - 48))), (0, .ref (ad 375)), (1, .int (zI x0)), (2, .ref (ad w))] (by decide) rfl dX5_readNumber_21 (fun ls hl => ?_)
    refine z_aload_n C0 hl 1 rfl dX5_readNumber_22 ?_
    refine z_dup C0 rfl dX5_readNumber_23 ?_
    refine zg_3_5 C0 Wd zN375 zK375 zk_296 dX5_readNumber_24 ?_
    obtain ⟨he13, hz12⟩ : (zM0 375 5) = q0 ∧ zR q0 := (fun q => ⟨q, q ▸ Wd.rm _ _⟩) hq.1
    refine z_top (congrArg zI he13) ?_
    clear he13
    refine z_iconst C0 dX5_readNumber_27 ?_
    refine z_iadd C0 dX5_readNumber_28 ?_
    refine zp_3_5 C0 Wd zN375 zK375 (by have q0 := hz12.1; have p0 := hz12.2; exact zR_mk (by omega) (by omega)) zk_296 dX5_readNumber_29 (fun H locs Wd => ?_)
    refine z_iload_n C0 hl 2 rfl dX5_readNumber_32 ?_
    refine z_if_eq C0 (tgt := 71) hx0 dX5_readNumber_33 (by decide) (fun c14 => absurd c14 (by omega)) (fun c14 => ?_)
    refine z_aload_n C0 hl 1 rfl dX5_readNumber_36 ?_
    refine z_aload_n C0 hl 1 rfl dX5_readNumber_37 ?_
    refine zg_3_5 C0 Wd zN375 zK375 zk_296 dX5_readNumber_38 ?_
    obtain ⟨he16, hz15⟩ : ((zu zM0 375 5 (q0 + 1)) 375 5) = (q0 + 1) ∧ zR (q0 + 1) := (fun q => ⟨q, q ▸ Wd.rm _ _⟩) (zu_same _ _ _ _)
    refine z_top (congrArg zI he16) ?_
    clear he16
    refine z_invVi (As := [.int (zI (q0 + 1))]) (rest := []) C0 Wd (ct_X5_isDigitAt l g zX ad (zu zM0 375 5 (q0 + 1)) zF0 T n (q0 + 1) hz15 (zCS_zu hC (by omega) (by omega)) hT) kv_X5_isDigitAt zN375 (zE_3 zK375) rfl zk_1568 rfl hl.1 rfl (Nat.le_of_ble_eq_true rfl) (by decide) (by decide) dX5_readNumber_41 (fun r17 zMr17 zFr17 H locs hrr17 hp Wd => ?_)
    obtain ⟨rfl, rfl, rfl⟩ := hp
    refine z_if_eq_b C0 (tgt := 71) dX5_readNumber_44 (by decide) (fun c19 => ?_) (fun c19 => ?_)
    · skip
      refine z_aload_n C0 hl 3 rfl dX5_readNumber_71 ?_
      refine z_iload_n C0 hl 0 rfl dX5_readNumber_72 ?_
      refine z_invVv (As := [.int (zI (T q0 - 48))]) (rest := []) C0 Wd (ct_X3_addArgument l g zX ad (zu zM0 375 5 (q0 + 1)) zF0 w c0 hcw (T q0 - 48) hrr10 ⟨((zu_ne (by omega)).trans h3.1), by omega, by omega⟩) kv_X3_addArgument (znQ hcw) (zE_2 (zkQ hcw)) rfl zk_1576 rfl hl.1 rfl (Nat.le_of_ble_eq_true rfl) (by decide) (by decide) dX5_readNumber_73 (fun zMr20 zFr20 H locs hp Wd => ?_)
      obtain ⟨rfl, rfl⟩ := hp
      refine z_iconst C0 dX5_readNumber_76 ?_
      have hz9 : zst T n 37 q0 = (q0 + 1) := zst_n1 (by omega) c5.2 (fun z => c19 ⟨by omega, z⟩)
      have hn9 : znv T n 37 q0 = (T q0 - 48) := (if_neg (fun z => c19 ⟨by omega, z.2⟩))
      exact z_zret C0 Wd hret hlk (by decide) (Or.inr ⟨by rw [hz9]; omega, rfl, by rw [hz9, hn9], rfl⟩) dX5_readNumber_77
    · skip
      have hdl22 := c19.2.1
      have hdv23 := c19.2.2
      refine z_iload_n C0 hl 0 rfl dX5_readNumber_47 ?_
      refine z_bipush C0 dX5_readNumber_48 (by decide) ?_
      refine z_imul C0 dX5_readNumber_50 ?_
      refine z_aload_n C0 hl 1 rfl dX5_readNumber_51 ?_
      refine z_aload_n C0 hl 1 rfl dX5_readNumber_52 ?_
      refine zg_3_5 C0 Wd zN375 zK375 zk_296 dX5_readNumber_53 ?_
      obtain ⟨he25, hz24⟩ : ((zu zM0 375 5 (q0 + 1)) 375 5) = (q0 + 1) ∧ zR (q0 + 1) := (fun q => ⟨q, q ▸ Wd.rm _ _⟩) (zu_same _ _ _ _)
      refine z_top (congrArg zI he25) ?_
      clear he25
      refine z_invVi (As := [.int (zI (q0 + 1))]) (rest := [.int (zI ((T q0 - 48) * 10))]) C0 Wd (ct_X5_digitAt l g zX ad (zu zM0 375 5 (q0 + 1)) zF0 T n (q0 + 1) hz24 (zCS_zu hC (by omega) (by omega)) hT c19) kv_X5_digitAt zN375 (zE_3 zK375) rfl zk_1572 rfl hl.1 rfl (Nat.le_of_ble_eq_true rfl) (by decide) (by decide) dX5_readNumber_56 (fun r26 zMr26 zFr26 H locs hrr26 hp Wd => ?_)
      obtain ⟨rfl, rfl, rfl⟩ := hp
      refine z_iadd C0 dX5_readNumber_59 ?_
      refine z_istore_n C0 hl [(3, .int (zI (((T q0 - 48) * 10) + (T (q0 + 1) - 48)))), (0, .ref (ad 375)), (1, .int (zI x0)), (2, .ref (ad w))] (by decide) rfl dX5_readNumber_60 (fun ls hl => ?_)
      refine z_aload_n C0 hl 1 rfl dX5_readNumber_61 ?_
      refine z_dup C0 rfl dX5_readNumber_62 ?_
      refine zg_3_5 C0 Wd zN375 zK375 zk_296 dX5_readNumber_63 ?_
      obtain ⟨he29, hz28⟩ : ((zu zM0 375 5 (q0 + 1)) 375 5) = (q0 + 1) ∧ zR (q0 + 1) := (fun q => ⟨q, q ▸ Wd.rm _ _⟩) (zu_same _ _ _ _)
      refine z_top (congrArg zI he29) ?_
      clear he29
      refine z_iconst C0 dX5_readNumber_66 ?_
      refine z_iadd C0 dX5_readNumber_67 ?_
      refine zp_3_5 C0 Wd zN375 zK375 (by have q0 := hz28.1; have p0 := hz28.2; exact zR_mk (by omega) (by omega)) zk_296 dX5_readNumber_68 (fun H locs Wd => ?_)
      refine z_aload_n C0 hl 3 rfl dX5_readNumber_71 ?_
      refine z_iload_n C0 hl 0 rfl dX5_readNumber_72 ?_
      refine z_invVv (As := [.int (zI (((T q0 - 48) * 10) + (T (q0 + 1) - 48)))]) (rest := []) C0 Wd (ct_X3_addArgument l g zX ad (zu (zu zM0 375 5 (q0 + 1)) 375 5 ((q0 + 1) + 1)) zF0 w c0 hcw (((T q0 - 48) * 10) + (T (q0 + 1) - 48)) (by have q0 := hrr10.1; have p0 := hrr10.2; have q1 := hrr26.1; have p1 := hrr26.2; exact zR_mk (by omega) (by omega)) ⟨((zu_ne (by omega)).trans ((zu_ne (by omega)).trans h3.1)), by omega, by omega⟩) kv_X3_addArgument (znQ hcw) (zE_2 (zkQ hcw)) rfl zk_1576 rfl hl.1 rfl (Nat.le_of_ble_eq_true rfl) (by decide) (by decide) dX5_readNumber_73 (fun zMr30 zFr30 H locs hp Wd => ?_)
      obtain ⟨rfl, rfl⟩ := hp
      refine z_iconst C0 dX5_readNumber_76 ?_
      have hz9 : zst T n 37 q0 = ((q0 + 1) + 1) := (zst_n2 (by omega) c5.2 c19.2).trans (by omega)
      have hn9 : znv T n 37 q0 = (((T q0 - 48) * 10) + (T (q0 + 1) - 48)) := ((if_pos ⟨rfl, c19.2⟩).trans (by omega))
      exact z_zret C0 Wd hret hlk (by decide) (Or.inr ⟨by rw [hz9]; omega, rfl, by rw [hz9, hn9, zu_tw], rfl⟩) dX5_readNumber_77
  · skip
    refine z_iconst C0 dX5_readNumber_11 ?_
    exact z_zret C0 Wd hret hlk (by decide) (Or.inl ⟨by rw [zst_n0 (by omega) (fun z => c5 ⟨by omega, z⟩)]; omega, rfl, rfl, rfl⟩) dX5_readNumber_12
