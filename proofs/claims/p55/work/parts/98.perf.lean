/-! the class performs a command -/
def zfL (k : Int) : List Int := if k = 1 then [1, 3, 4] else if k = 2 then [1, 4] else if k = 3 then [1, 3, 4] else if k = 4 then [1] else if k = 5 then [1] else if k = 6 then [1, 4] else if k = 7 then [3] else [4]
theorem zdC_f {k a b c : Int} {V : Int → Int} (h0 : 0 ≤ k) (h1 : k < 8) : 0 ≤ (zdC k a b c V).1 ∧ (zdC k a b c V).1 ≤ ((zfL k).length : Int) := by
  have e : k = 0 ∨ k = 1 ∨ k = 2 ∨ k = 3 ∨ k = 4 ∨ k = 5 ∨ k = 6 ∨ k = 7 := by omega
  rcases e with rfl | rfl | rfl | rfl | rfl | rfl | rfl | rfl
  · show 0 ≤ (zdAC V).1 ∧ (zdAC V).1 ≤ 1
    unfold zdAC
    split <;> simp
  · show 0 ≤ (zdAT a b c V).1 ∧ (zdAT a b c V).1 ≤ 3
    unfold zdAT
    repeat' split
    all_goals simp
  · show 0 ≤ (zdAH a V).1 ∧ (zdAH a V).1 ≤ 2
    unfold zdAH
    repeat' split
    all_goals simp
  · show 0 ≤ (zdSay a b c V).1 ∧ (zdSay a b c V).1 ≤ 3
    unfold zdSay
    repeat' split
    all_goals simp
  · show 0 ≤ (zdLi a True V).1 ∧ (zdLi a True V).1 ≤ 1
    unfold zdLi
    split <;> simp
  · show 0 ≤ (zdLi a False V).1 ∧ (zdLi a False V).1 ≤ 1
    unfold zdLi
    split <;> simp
  · show 0 ≤ (zdMv a b V).1 ∧ (zdMv a b V).1 ≤ 2
    unfold zdMv
    repeat' split
    all_goals simp
  · show 0 ≤ (zdPT a V).1 ∧ (zdPT a V).1 ≤ 1
    unfold zdPT
    split <;> simp
theorem zFt_0 {L : List Int} {k r : Int} (hL : ∀ x ∈ L, 0 < x) (h0 : 0 ≤ k) (h1 : k ≤ (L.length : Int)) (h : zFt L k r) : r = 0 ↔ k = 0 := by
  unfold zFt at h
  by_cases e : k = 0
  · subst e
    exact ⟨fun _ => rfl, fun _ => h⟩
  · refine ⟨fun q => ?_, fun q => absurd q e⟩
    obtain ⟨j, hj⟩ : ∃ j : Nat, k.toNat = j + 1 := ⟨k.toNat - 1, by omega⟩
    rw [hj, List.getD_cons_succ, List.getD_eq_getElem?_getD, List.getElem?_eq_getElem (show j < L.length by omega)] at h
    have := hL (L[j]'(by omega)) (List.getElem_mem _)
    have h' : r = L[j]'(by omega) := h
    omega
theorem zfL_pos {k : Int} (h0 : 0 ≤ k) (h1 : k < 8) : ∀ x ∈ zfL k, 0 < x ∧ x < 5 := by
  have e : k = 0 ∨ k = 1 ∨ k = 2 ∨ k = 3 ∨ k = 4 ∨ k = 5 ∨ k = 6 ∨ k = 7 := by omega
  rcases e with rfl | rfl | rfl | rfl | rfl | rfl | rfl | rfl <;> decide

theorem kv_X5_take : zKV yX5_take cX5_take 2 (some .boolean) "DrumWarren$CommandReader" 1 := ⟨zk_1539, zk_1537, zk_1538, zk_32, by decide, by decide, by decide +kernel⟩
set_option maxHeartbeats 4000000 in
set_option maxRecDepth 100000 in
theorem ct_X5_take (l : Launch) (g : zG) (zX : va_W) (ad : Int → Nat) (zM0 zF0 : zMem) (x0 : Int) (hx0 : zR x0) (hn : 0 ≤ zM0 375 1 ∧ zM0 375 1 ≤ 60) (hx : 0 ≤ x0 ∧ x0 < 65536) : zMt l yX5_take cX5_take 2 (some .boolean) 0 0 0 g (0, 398, zX) ad [.ref (ad 375), .int (zI x0)] zM0 zF0 (zPi (fun r M' F' => ((¬ zM0 375 1 < 60) ∧ 0 = r ∧ zM0 = M' ∧ zF0 = F') ∨ ((zM0 375 1 < 60) ∧ 1 = r ∧ (zu (zu zM0 376 (zM0 375 1) x0) 375 1 (zM0 375 1 + 1)) = M' ∧ zF0 = F'))) := by
  refine zMt.of "DrumWarren$CommandReader" rfl (by decide +kernel) (Nat.le_of_ble_eq_true rfl) (fun {p e s m args below meth c ls} C0 Wd hl hret hlk hin => ?_)
  have hl : lv_has ls 2 [(0, .ref (ad 375)), (1, .int (zI x0))] := hl
  refine z_aload_n C0 hl 0 rfl dX5_take_0 ?_
  refine zg_3_1 C0 Wd zN375 zK375 zk_288 dX5_take_1 ?_
  have hz1 : zR (zM0 375 1) := Wd.rm _ _
  refine z_if_lt C0 (tgt := 16) hz1 dX5_take_4 (by decide) (fun c2 => ?_) (fun c2 => ?_)
  · skip
    refine z_iconst C0 dX5_take_16 ?_
    exact z_zret C0 Wd hret hlk (by decide) (by first | exact (Or.inl ⟨(by first | assumption | omega), (by first | rfl | omega), (by first | rfl | (simp [zb, *]; done)), rfl⟩) | exact (Or.inr ⟨(by first | assumption | omega), (by first | rfl | omega), (by first | rfl | (simp [zb, *]; done)), rfl⟩)) dX5_take_17
  · skip
    refine z_aload_n C0 hl 0 rfl dX5_take_7 ?_
    refine zg_3_1 C0 Wd zN375 zK375 zk_288 dX5_take_8 ?_
    have hz3 : zR (zM0 375 1) := Wd.rm _ _
    refine z_bipush C0 dX5_take_11 (by decide) ?_
    refine z_icmp_lt C0 (tgt := 18) hz3 (zR_mk (by decide) (by decide)) dX5_take_13 (by decide) (fun c4 => ?_) (fun c4 => ?_)
    · skip
      refine z_aload_n C0 hl 0 rfl dX5_take_18 ?_
      refine zg_3_0 C0 Wd zN375 zK375 zk_287 dX5_take_19 ?_
      refine z_rf (show (375 + 1) = 376 by decide) ?_
      refine z_aload_n C0 hl 0 rfl dX5_take_22 ?_
      refine zg_3_1 C0 Wd zN375 zK375 zk_288 dX5_take_23 ?_
      have hz5 : zR (zM0 375 1) := Wd.rm _ _
      refine z_iload_n C0 hl 1 rfl dX5_take_26 ?_
      refine z_cast C0 Wd zN376 zK376 zL376 (by omega) (by omega) (by decide) (by omega) (by omega) dX5_take_27 (fun H locs Wd => ?_)
      refine z_aload_n C0 hl 0 rfl dX5_take_28 ?_
      refine z_dup C0 rfl dX5_take_29 ?_
      refine zg_3_1 C0 Wd zN375 zK375 zk_288 dX5_take_30 ?_
      obtain ⟨he8, hz6⟩ : ((zu zM0 376 (zM0 375 1) x0) 375 1) = (zM0 375 1) ∧ zR (zM0 375 1) := (fun q => ⟨q, q ▸ Wd.rm _ _⟩) (zu_ne (by omega))
      refine z_top (congrArg zI he8) ?_
      clear he8
      refine z_iconst C0 dX5_take_33 ?_
      refine z_iadd C0 dX5_take_34 ?_
      refine zp_3_1 C0 Wd zN375 zK375 (by have q0 := hz6.1; have p0 := hz6.2; exact zR_mk (by omega) (by omega)) zk_288 dX5_take_35 (fun H locs Wd => ?_)
      refine z_iconst C0 dX5_take_38 ?_
      exact z_zret C0 Wd hret hlk (by decide) (by first | exact (Or.inl ⟨(by first | assumption | omega), (by first | rfl | omega), (by first | rfl | (simp [zb, *]; done)), rfl⟩) | exact (Or.inr ⟨(by first | assumption | omega), (by first | rfl | omega), (by first | rfl | (simp [zb, *]; done)), rfl⟩)) dX5_take_39
    · skip
      refine z_iconst C0 dX5_take_16 ?_
      exact z_zret C0 Wd hret hlk (by decide) (by first | exact (Or.inl ⟨(by first | assumption | omega), (by first | rfl | omega), (by first | rfl | (simp [zb, *]; done)), rfl⟩) | exact (Or.inr ⟨(by first | assumption | omega), (by first | rfl | omega), (by first | rfl | (simp [zb, *]; done)), rfl⟩)) dX5_take_17
theorem kv_X11_feed : zKV yX11_feed cX11_feed 2 (some .int) "DrumWarren" 1 := ⟨zk_1535, zk_1533, zk_1534, zk_25, by decide, by decide, by decide +kernel⟩
set_option maxHeartbeats 4000000 in
set_option maxRecDepth 100000 in
theorem ct_X11_feed (l : Launch) (g : zG) (zX : va_W) (ad : Int → Nat) (zM0 zF0 : zMem) (x0 : Int) (hx0 : zR x0) (hn : 0 ≤ zM0 375 1 ∧ zM0 375 1 ≤ 60) (hx : 0 ≤ x0 ∧ x0 < 65536) : zMx l yX11_feed cX11_feed 2 (some .int) 8 1 6 g (0, 398, zX) ad [.ref (ad 0), .int (zI x0)] zM0 zF0 (zPi (fun r M' F' => ((zM0 375 1 < 60) ∧ (zM0 375 1 + 1) = r ∧ (zu (zu zM0 376 (zM0 375 1) x0) 375 1 (zM0 375 1 + 1)) = M' ∧ zF0 = F'))) (fun E M' F' => E = "java/lang/IllegalStateException" ∧ ¬ zM0 375 1 < 60 ∧ zM0 = M' ∧ zF0 = F') := by
  refine zMx.of "DrumWarren" rfl (by decide +kernel) (Nat.le_of_ble_eq_true rfl) (fun {p e s m args below meth c ls} C0 Wd hl hret hlk hin hst hno => ?_)
  have hl : lv_has ls 2 [(0, .ref (ad 0)), (1, .int (zI x0))] := hl
  refine z_aload_n C0 hl 0 rfl dX11_feed_0 ?_
  refine zg_8_4 C0 Wd zN0 zK0 zk_347 dX11_feed_1 ?_
  refine z_iload_n C0 hl 1 rfl dX11_feed_4 ?_
  refine z_invVi (As := [.int (zI x0)]) (rest := []) C0 Wd (ct_X5_take l g zX ad zM0 zF0 x0 hx0 (by omega) (by omega)) kv_X5_take zN375 (zE_3 zK375) rfl zk_1536 rfl hl.1 rfl (Nat.le_of_ble_eq_true rfl) (by decide) (by decide) dX11_feed_5 (fun r1 zMr1 zFr1 H locs hrr1 hp Wd => ?_)
  rcases hp with ⟨hr1_0_0, rfl, rfl, rfl⟩ | ⟨hr1_1_0, rfl, rfl, rfl⟩
  · skip
    refine z_if_ne C0 (tgt := 22) (zR_mk (by decide) (by decide)) dX11_feed_8 (by decide) (fun h => absurd h (by decide)) (fun _ => ?_)
    exact z_throwE (k := 3) C0 Wd hst hl.1 zTh_S (zc_r C0 (q := ("DrumWarren", 316, "the input buffer is full", 212)) (List.mem_of_getElem? (i := 24) rfl)) hno hlk dX11_feed_11 dX11_feed_14 (Or.inr ⟨rfl, dX11_feed_15⟩) dX11_feed_18 dX11_feed_21 (by decide) (by decide) (by decide) (by decide) (by exact ⟨rfl, by assumption, rfl, rfl⟩)
  · skip
    refine z_if_ne C0 (tgt := 22) (zR_mk (by decide) (by decide)) dX11_feed_8 (by decide) (fun _ => ?_) (fun h => absurd h (by decide))
    refine z_aload_n C0 hl 0 rfl dX11_feed_22 ?_
    refine zg_8_4 C0 Wd zN0 zK0 zk_347 dX11_feed_23 ?_
    refine zg_3_1 C0 Wd zN375 zK375 zk_289 dX11_feed_26 ?_
    obtain ⟨he7, hz5⟩ : ((zu (zu zM0 376 (zM0 375 1) x0) 375 1 (zM0 375 1 + 1)) 375 1) = (zM0 375 1 + 1) ∧ zR (zM0 375 1 + 1) := (fun q => ⟨q, q ▸ Wd.rm _ _⟩) (zu_same _ _ _ _)
    refine z_top (congrArg zI he7) ?_
    clear he7
    exact z_xret (z_iret C0 Wd hret hlk hz5 (by first | exact ⟨(by first | assumption | omega), (by first | rfl | omega), (by first | rfl | (simp [zb, *]; done)), rfl⟩) dX11_feed_29) (by decide) (by decide)
theorem kv_X11_perform : zKV yX11_perform cX11_perform 5 (some (.object "DrumWarren$Fault")) "DrumWarren" 1 := ⟨zk_1593, zk_1592, zk_23, zk_25, by decide, by decide, by decide +kernel⟩
set_option maxHeartbeats 4000000 in
set_option maxRecDepth 100000 in
theorem ct_X11_perform (l : Launch) (g : zG) (zX : va_W) (ad : Int → Nat) (zM0 zF0 : zMem) (V : Int → Int) (zt : Int) (w kk : Int) (hcw : zCm w) (hR : zRS 1 V zM0 zF0) (hG : zGd zt V) (ht : zt ≤ 70000000) (hkk : 0 ≤ kk ∧ kk < 8) (hF0 : zF0 w 0 = 10 + kk) : zMt l yX11_perform cX11_perform 5 (some (.object "DrumWarren$Fault")) 8 0 0 g (0, 398, zX) ad [.ref (ad 0), .ref (ad w)] zM0 zF0 (zPe g (fun r M' F' => zFt (zfL kk) (zdC kk (zM0 (w + 1) 0) (zM0 (w + 1) 1) (zM0 (w + 1) 2) V).1 r ∧ zRS 1 (zdC kk (zM0 (w + 1) 0) (zM0 (w + 1) 1) (zM0 (w + 1) 2) V).2.2 M' F' ∧ zOut 1 zM0 zF0 M' F')) := by
  refine zMt.of "DrumWarren" rfl (by decide +kernel) (Nat.le_of_ble_eq_true rfl) (fun {p e s m args below meth c ls} C0 Wd hl hret hlk hin => ?_)
  have hl : lv_has ls 5 [(0, .ref (ad 0)), (1, .ref (ad w))] := hl
  have hI := hG.1
  have h0b := hI.1
  have h1b := hI.2.1
  have h2b := hI.2.2.1
  have h3b := hI.2.2.2.1 3 (by decide) (by decide)
  have hwb := zCm_bd hcw
  refine z_aload_n C0 hl 1 rfl dX11_perform_0 ?_
  refine zg_2_1 C0 Wd (znQ hcw) (zkQ hcw) zk_276 dX11_perform_1 ?_
  refine z_iconst C0 dX11_perform_4 ?_
  refine z_iald C0 Wd (znQ1 hcw) (zkQ1 hcw) (zlQ1 hcw) (by decide) (by decide) (by decide) dX11_perform_5 ?_
  have hz1 : zR (zM0 (w + 1) 0) := Wd.rm _ _
  refine z_istore_n C0 hl [(2, .int (zI (zM0 (w + 1) 0))), (0, .ref (ad 0)), (1, .ref (ad w))] (by decide) rfl dX11_perform_6 (fun ls hl => ?_)
  refine z_aload_n C0 hl 2 rfl dX11_perform_7 ?_
  refine zg_2_1 C0 Wd (znQ hcw) (zkQ hcw) zk_276 dX11_perform_8 ?_
  refine z_iconst C0 dX11_perform_11 ?_
  refine z_iald C0 Wd (znQ1 hcw) (zkQ1 hcw) (zlQ1 hcw) (by decide) (by decide) (by decide) dX11_perform_12 ?_
  have hz2 : zR (zM0 (w + 1) 1) := Wd.rm _ _
  refine z_istore_n C0 hl [(3, .int (zI (zM0 (w + 1) 1))), (2, .int (zI (zM0 (w + 1) 0))), (0, .ref (ad 0)), (1, .ref (ad w))] (by decide) rfl dX11_perform_13 (fun ls hl => ?_)
  refine z_aload_n C0 hl 3 rfl dX11_perform_14 ?_
  refine zg_2_1 C0 Wd (znQ hcw) (zkQ hcw) zk_276 dX11_perform_15 ?_
  refine z_iconst C0 dX11_perform_18 ?_
  refine z_iald C0 Wd (znQ1 hcw) (zkQ1 hcw) (zlQ1 hcw) (by decide) (by decide) (by decide) dX11_perform_19 ?_
  have hz3 : zR (zM0 (w + 1) 2) := Wd.rm _ _
  refine z_istore C0 hl [(4, .int (zI (zM0 (w + 1) 2))), (3, .int (zI (zM0 (w + 1) 1))), (2, .int (zI (zM0 (w + 1) 0))), (0, .ref (ad 0)), (1, .ref (ad w))] (by decide) rfl dX11_perform_20 (fun ls hl => ?_)
  refine z_gets C0 Wd (zc_S1 C0) zk_1594 dX11_perform_22 ?_
  refine z_aload_n C0 hl 4 rfl dX11_perform_25 ?_
  refine zg_2_0 C0 Wd (znQ hcw) (zkQ hcw) zk_274 dX11_perform_26 ?_
  refine z_re (show (zF0 w 0) = (10 + kk) from hF0) ?_
  refine z_invU (As := []) (rest := [.ref (g.2.2.2 101)]) C0 Wd (ct_Jx29ce0_ordinal_8abf5_K l g (0, 398, zX) zN396 zN397 ad zM0 zF0 (10 + kk) (by omega) (by omega)) zKU_ordK (zrecvO C0 Wd (zc_KOi C0 (by omega) (by omega)).1) zk_1596 rfl hl.1 rfl (Nat.le_of_ble_eq_true rfl) (by decide) (by decide) dX11_perform_29 (z_kki (fun r4 zMr4 zFr4 H locs hrr4 hp Wd => ?_))
  obtain ⟨rfl, rfl, rfl⟩ := hp
  refine z_tabi C0 Wd (zc_T1 C0) (by omega) (by omega) (by decide) (by show Value.int (zI ((((((10 + kk) - 10)).toNat : Nat) : Int) + 1)) = .int (zI (kk + 1)); rw [Int.toNat_of_nonneg (by omega), show (((10 + kk) - 10)) + 1 = kk + 1 by omega]) dX11_perform_32 ?_
  refine z_table C0 (zR_mk (by omega) (by omega)) dX11_perform_33 (by decide) (fun v => if v = 1 then 80 else (if v = 2 then 91 else (if v = 3 then 106 else (if v = 4 then 115 else (if v = 5 then 127 else (if v = 6 then 137 else (if v = 7 then 147 else (if v = 8 then 157 else 166)))))))) (by decide) (fun v hv => by show (if v = 1 then 80 else (if v = 2 then 91 else (if v = 3 then 106 else (if v = 4 then 115 else (if v = 5 then 127 else (if v = 6 then 137 else (if v = 7 then 147 else (if v = 8 then 157 else 166))))))) : Nat) = 166; rw [if_neg (by omega), if_neg (by omega), if_neg (by omega), if_neg (by omega), if_neg (by omega), if_neg (by omega), if_neg (by omega), if_neg (by omega)]) (by decide) ?_
  refine z_ite (fun t6 => ?_) (fun t6 => ?_)
  · skip
    refine z_aload_n C0 hl 3 rfl dX11_perform_80 ?_
    refine zg_8_0 C0 Wd zN0 zK0 zk_343 dX11_perform_81 ?_
    refine zg_7_0 C0 Wd zN1 zK1 zk_194 dX11_perform_84 ?_
    refine z_rf (show (1 + 1) = 2 by decide) ?_
    refine z_invVe (As := []) (rest := []) C0 Wd (ct_X2_digChamber l g zX ad zM0 zF0 1 zB_1 V zt hR hI) kv_X2_digChamber zN2 (zE_1 zK2) rfl zk_411 rfl hl.1 rfl (Nat.le_of_ble_eq_true rfl) (by decide) (by decide) dX11_perform_87 (fun r7 zMr7 zFr7 H locs hp Wd => ?_)
    obtain ⟨hftr7, hrsr7, hotr7⟩ := hp
    have hkk9 : kk = 0 := by omega
    subst hkk9
    exact z_eret C0 Wd hret hlk ⟨hftr7, hrsr7, hotr7⟩ dX11_perform_90
  refine z_ite (fun t9 => ?_) (fun t9 => ?_)
  · skip
    refine z_aload_n C0 hl 3 rfl dX11_perform_91 ?_
    refine zg_8_0 C0 Wd zN0 zK0 zk_343 dX11_perform_92 ?_
    refine zg_7_0 C0 Wd zN1 zK1 zk_194 dX11_perform_95 ?_
    refine z_rf (show (1 + 1) = 2 by decide) ?_
    refine z_iload_n C0 hl 2 rfl dX11_perform_98 ?_
    refine z_iload_n C0 hl 1 rfl dX11_perform_99 ?_
    refine z_iload C0 hl 0 rfl dX11_perform_100 ?_
    refine z_invVe (As := [.int (zI (zM0 (w + 1) 0)), .int (zI (zM0 (w + 1) 1)), .int (zI (zM0 (w + 1) 2))]) (rest := []) C0 Wd (ct_X2_digTunnel l g zX ad zM0 zF0 1 zB_1 V zt (zM0 (w + 1) 0) hz1 (zM0 (w + 1) 1) hz2 (zM0 (w + 1) 2) hz3 hR hI hG.tn) kv_X2_digTunnel zN2 (zE_1 zK2) rfl zk_586 rfl hl.1 rfl (Nat.le_of_ble_eq_true rfl) (by decide) (by decide) dX11_perform_102 (fun r10 zMr10 zFr10 H locs hp Wd => ?_)
    obtain ⟨hftr10, hrsr10, hotr10⟩ := hp
    have hkk9 : kk = 1 := by omega
    subst hkk9
    exact z_eret C0 Wd hret hlk ⟨hftr10, hrsr10, hotr10⟩ dX11_perform_105
  refine z_ite (fun t12 => ?_) (fun t12 => ?_)
  · skip
    refine z_aload_n C0 hl 3 rfl dX11_perform_106 ?_
    refine zg_8_0 C0 Wd zN0 zK0 zk_343 dX11_perform_107 ?_
    refine z_iload_n C0 hl 2 rfl dX11_perform_110 ?_
    refine z_invVe (As := [.int (zI (zM0 (w + 1) 0))]) (rest := []) C0 Wd (ct_X10_settle l g zX ad zM0 zF0 1 zB_1 V zt (zM0 (w + 1) 0) hz1 hR hI) kv_X10_settle zN1 (zE_7 zK1) rfl zk_613 rfl hl.1 rfl (Nat.le_of_ble_eq_true rfl) (by decide) (by decide) dX11_perform_111 (fun r13 zMr13 zFr13 H locs hp Wd => ?_)
    obtain ⟨hftr13, hrsr13, hotr13⟩ := hp
    have hkk9 : kk = 2 := by omega
    subst hkk9
    exact z_eret C0 Wd hret hlk ⟨hftr13, hrsr13, hotr13⟩ dX11_perform_114
  refine z_ite (fun t15 => ?_) (fun t15 => ?_)
  · skip
    refine z_aload_n C0 hl 3 rfl dX11_perform_115 ?_
    refine zg_8_0 C0 Wd zN0 zK0 zk_343 dX11_perform_116 ?_
    refine z_iload_n C0 hl 2 rfl dX11_perform_119 ?_
    refine z_iload_n C0 hl 1 rfl dX11_perform_120 ?_
    refine z_iload C0 hl 0 rfl dX11_perform_121 ?_
    refine z_invVe (As := [.int (zI (zM0 (w + 1) 0)), .int (zI (zM0 (w + 1) 1)), .int (zI (zM0 (w + 1) 2))]) (rest := []) C0 Wd (ct_X10_addMessage l g zX ad zM0 zF0 1 zB_1 V zt (zM0 (w + 1) 0) hz1 (zM0 (w + 1) 1) hz2 (zM0 (w + 1) 2) hz3 hR hI (by omega)) kv_X10_addMessage zN1 (zE_7 zK1) rfl zk_628 rfl hl.1 rfl (Nat.le_of_ble_eq_true rfl) (by decide) (by decide) dX11_perform_123 (fun r16 zMr16 zFr16 H locs hp Wd => ?_)
    obtain ⟨hftr16, hrsr16, hotr16⟩ := hp
    have hkk9 : kk = 3 := by omega
    subst hkk9
    exact z_eret C0 Wd hret hlk ⟨hftr16, hrsr16, hotr16⟩ dX11_perform_126
  refine z_ite (fun t18 => ?_) (fun t18 => ?_)
  · skip
    refine z_aload_n C0 hl 3 rfl dX11_perform_127 ?_
    refine zg_8_0 C0 Wd zN0 zK0 zk_343 dX11_perform_128 ?_
    refine z_iload_n C0 hl 2 rfl dX11_perform_131 ?_
    refine z_iconst C0 dX11_perform_132 ?_
    refine z_invVe (As := [.int (zI (zM0 (w + 1) 0)), .int (zI 1)]) (rest := []) C0 Wd (ct_X10_letListen l g zX ad zM0 zF0 1 zB_1 V zt (zM0 (w + 1) 0) hz1 True hR hI) kv_X10_letListen zN1 (zE_7 zK1) rfl zk_651 rfl hl.1 rfl (Nat.le_of_ble_eq_true rfl) (by decide) (by decide) dX11_perform_133 (fun r19 zMr19 zFr19 H locs hp Wd => ?_)
    obtain ⟨hftr19, hrsr19, hotr19⟩ := hp
    have hkk9 : kk = 4 := by omega
    subst hkk9
    exact z_eret C0 Wd hret hlk ⟨hftr19, hrsr19, hotr19⟩ dX11_perform_136
  refine z_ite (fun t21 => ?_) (fun t21 => ?_)
  · skip
    refine z_aload_n C0 hl 3 rfl dX11_perform_137 ?_
    refine zg_8_0 C0 Wd zN0 zK0 zk_343 dX11_perform_138 ?_
    refine z_iload_n C0 hl 2 rfl dX11_perform_141 ?_
    refine z_iconst C0 dX11_perform_142 ?_
    refine z_invVe (As := [.int (zI (zM0 (w + 1) 0)), .int (zI 0)]) (rest := []) C0 Wd (ct_X10_letListen l g zX ad zM0 zF0 1 zB_1 V zt (zM0 (w + 1) 0) hz1 False hR hI) kv_X10_letListen zN1 (zE_7 zK1) rfl zk_651 rfl hl.1 rfl (Nat.le_of_ble_eq_true rfl) (by decide) (by decide) dX11_perform_143 (fun r22 zMr22 zFr22 H locs hp Wd => ?_)
    obtain ⟨hftr22, hrsr22, hotr22⟩ := hp
    have hkk9 : kk = 5 := by omega
    subst hkk9
    exact z_eret C0 Wd hret hlk ⟨hftr22, hrsr22, hotr22⟩ dX11_perform_146
  refine z_ite (fun t24 => ?_) (fun t24 => ?_)
  · skip
    refine z_aload_n C0 hl 3 rfl dX11_perform_147 ?_
    refine zg_8_0 C0 Wd zN0 zK0 zk_343 dX11_perform_148 ?_
    refine z_iload_n C0 hl 2 rfl dX11_perform_151 ?_
    refine z_iload_n C0 hl 1 rfl dX11_perform_152 ?_
    refine z_invVe (As := [.int (zI (zM0 (w + 1) 0)), .int (zI (zM0 (w + 1) 1))]) (rest := []) C0 Wd (ct_X10_go l g zX ad zM0 zF0 1 zB_1 V zt (zM0 (w + 1) 0) hz1 (zM0 (w + 1) 1) hz2 hR hI) kv_X10_go zN1 (zE_7 zK1) rfl zk_666 rfl hl.1 rfl (Nat.le_of_ble_eq_true rfl) (by decide) (by decide) dX11_perform_153 (fun r25 zMr25 zFr25 H locs hp Wd => ?_)
    obtain ⟨hftr25, hrsr25, hotr25⟩ := hp
    have hkk9 : kk = 6 := by omega
    subst hkk9
    exact z_eret C0 Wd hret hlk ⟨hftr25, hrsr25, hotr25⟩ dX11_perform_156
  refine z_ite (fun t27 => ?_) (fun t27 => ?_)
  · skip
    refine z_aload_n C0 hl 3 rfl dX11_perform_157 ?_
    refine zg_8_0 C0 Wd zN0 zK0 zk_343 dX11_perform_158 ?_
    refine z_iload_n C0 hl 2 rfl dX11_perform_161 ?_
    refine z_invVe (As := [.int (zI (zM0 (w + 1) 0))]) (rest := []) C0 Wd (ct_X10_letTicksPass l g zX ad zM0 zF0 1 zB_1 V zt (zM0 (w + 1) 0) hz1 hR hI hG.2.1 hG.2.2 ht) kv_X10_letTicksPass zN1 (zE_7 zK1) rfl zk_681 rfl hl.1 rfl (Nat.le_of_ble_eq_true rfl) (by decide) (by decide) dX11_perform_162 (fun r28 zMr28 zFr28 H locs hp Wd => ?_)
    obtain ⟨hftr28, hrsr28, hotr28⟩ := hp
    have hkk9 : kk = 7 := by omega
    subst hkk9
    exact z_eret C0 Wd hret hlk ⟨hftr28, hrsr28, hotr28⟩ dX11_perform_165
  refine z_gets C0 Wd (zc_F3 C0) zk_1599 dX11_perform_166 ?_
  exact z_eret C0 Wd hret hlk (by exfalso; omega) dX11_perform_169
