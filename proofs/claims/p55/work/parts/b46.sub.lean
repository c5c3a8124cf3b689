/-! substring of "!!!" -/
abbrev K3b : List Int32 := [33, 33, 33]
abbrev zB3s (g : zG) : Nat × Nat × List Int32 := (g.2.2.2 43, g.2.2.2 83, K3b)
theorem K3_lt : zLt K3b := ⟨by decide, by decide⟩
abbrev zN00 : zNs := (0, 0, [])
theorem kw_J3_fromTo : zKS yJ3_checkFromToIndex_8c36e cJ3_checkFromToIndex_8c36e 4 (some .int) 4 := ⟨zk_1072, zk_1071, zk_58, by decide, by decide, by decide +kernel⟩
theorem kw_J0_bounds : zKS yJ0_checkBoundsBeginEnd_23922 cJ0_checkBoundsBeginEnd_23922 3 none 3 := ⟨zk_1067, zk_1066, zk_38, by decide, by decide, by decide +kernel⟩
theorem kw_J1_new : zKS yJ1_newString_b4f7a cJ1_newString_b4f7a 3 (some (.object "java/lang/String")) 3 := ⟨zk_1314, zk_1313, zk_59, by decide, by decide, by decide +kernel⟩
theorem kw_J0_sub : zKV yJ0_substring_37a41 cJ0_substring_37a41 5 (some (.object "java/lang/String")) "java/lang/String" 2 := ⟨zk_1305, zk_1303, zk_1304, zk_38, by decide, by decide, by decide +kernel⟩
set_option maxHeartbeats 4000000 in
theorem ct_J3_fromTo_n (l : Launch) (g : zG) (N : zNs) (ad : Int → Nat) (M F : zMem) (x0 x1 x2 : Int) (h0 : 0 ≤ x0 ∧ x0 ≤ x1) (h1 : x1 ≤ x2 ∧ x2 < 1000) : zMt l yJ3_checkFromToIndex_8c36e cJ3_checkFromToIndex_8c36e 4 (some .int) 0 0 0 g N ad [.int (zI x0), .int (zI x1), .int (zI x2), .null] M F (zPi (fun r M' F' => x0 = r ∧ M = M' ∧ F = F')) := by
  refine zMt.of "jdk/internal/util/Preconditions" rfl (by decide +kernel) (Nat.le_of_ble_eq_true rfl) (fun {p e s m args below meth c ls} C0 Wd hl hret hlk hin => ?_)
  have hl : lv_has ls 4 [(0, .int (zI x0)), (1, .int (zI x1)), (2, .int (zI x2)), (3, .null)] := hl
  have z0 : zR x0 := zR_mk (by omega) (by omega)
  have z1 : zR x1 := zR_mk (by omega) (by omega)
  have z2 : zR x2 := zR_mk (by omega) (by omega)
  refine z_iload_n C0 hl 0 rfl dJ3_checkFromToIndex_8c36e_0 ?_
  refine z_if_lt C0 (tgt := 14) z0 dJ3_checkFromToIndex_8c36e_1 (by decide) (fun h => absurd h (by omega)) (fun _ => ?_)
  refine z_iload_n C0 hl 0 rfl dJ3_checkFromToIndex_8c36e_4 ?_
  refine z_iload_n C0 hl 1 rfl dJ3_checkFromToIndex_8c36e_5 ?_
  refine z_icmp_gt C0 (tgt := 14) z0 z1 dJ3_checkFromToIndex_8c36e_6 (by decide) (fun h => absurd h (by omega)) (fun _ => ?_)
  refine z_iload_n C0 hl 1 rfl dJ3_checkFromToIndex_8c36e_9 ?_
  refine z_iload_n C0 hl 2 rfl dJ3_checkFromToIndex_8c36e_10 ?_
  refine z_icmp_le C0 (tgt := 22) z1 z2 dJ3_checkFromToIndex_8c36e_11 (by decide) (fun _ => ?_) (fun h => absurd h (by omega))
  refine z_iload_n C0 hl 0 rfl dJ3_checkFromToIndex_8c36e_22 ?_
  exact z_iret C0 Wd hret hlk z0 ⟨rfl, rfl, rfl⟩ dJ3_checkFromToIndex_8c36e_23
set_option maxHeartbeats 4000000 in
theorem ct_J3_fromTo_r (l : Launch) (g : zG) (N : zNs) (ad : Int → Nat) (M F : zMem) (t9 : Nat) (x0 x1 x2 : Int) (h0 : 0 ≤ x0 ∧ x0 ≤ x1) (h1 : x1 ≤ x2 ∧ x2 < 1000) : zMt l yJ3_checkFromToIndex_8c36e cJ3_checkFromToIndex_8c36e 4 (some .int) 0 0 0 g N ad [.int (zI x0), .int (zI x1), .int (zI x2), .ref t9] M F (zPi (fun r M' F' => x0 = r ∧ M = M' ∧ F = F')) := by
  refine zMt.of "jdk/internal/util/Preconditions" rfl (by decide +kernel) (Nat.le_of_ble_eq_true rfl) (fun {p e s m args below meth c ls} C0 Wd hl hret hlk hin => ?_)
  have hl : lv_has ls 4 [(0, .int (zI x0)), (1, .int (zI x1)), (2, .int (zI x2)), (3, .ref t9)] := hl
  have z0 : zR x0 := zR_mk (by omega) (by omega)
  have z1 : zR x1 := zR_mk (by omega) (by omega)
  have z2 : zR x2 := zR_mk (by omega) (by omega)
  refine z_iload_n C0 hl 0 rfl dJ3_checkFromToIndex_8c36e_0 ?_
  refine z_if_lt C0 (tgt := 14) z0 dJ3_checkFromToIndex_8c36e_1 (by decide) (fun h => absurd h (by omega)) (fun _ => ?_)
  refine z_iload_n C0 hl 0 rfl dJ3_checkFromToIndex_8c36e_4 ?_
  refine z_iload_n C0 hl 1 rfl dJ3_checkFromToIndex_8c36e_5 ?_
  refine z_icmp_gt C0 (tgt := 14) z0 z1 dJ3_checkFromToIndex_8c36e_6 (by decide) (fun h => absurd h (by omega)) (fun _ => ?_)
  refine z_iload_n C0 hl 1 rfl dJ3_checkFromToIndex_8c36e_9 ?_
  refine z_iload_n C0 hl 2 rfl dJ3_checkFromToIndex_8c36e_10 ?_
  refine z_icmp_le C0 (tgt := 22) z1 z2 dJ3_checkFromToIndex_8c36e_11 (by decide) (fun _ => ?_) (fun h => absurd h (by omega))
  refine z_iload_n C0 hl 0 rfl dJ3_checkFromToIndex_8c36e_22 ?_
  exact z_iret C0 Wd hret hlk z0 ⟨rfl, rfl, rfl⟩ dJ3_checkFromToIndex_8c36e_23
set_option maxHeartbeats 4000000 in
theorem ct_J0_bounds (l : Launch) (g : zG) (N : zNs) (ad : Int → Nat) (M F : zMem) (x0 x1 x2 : Int) (h0 : 0 ≤ x0 ∧ x0 ≤ x1) (h1 : x1 ≤ x2 ∧ x2 < 1000) : zMt l yJ0_checkBoundsBeginEnd_23922 cJ0_checkBoundsBeginEnd_23922 3 none 1 0 0 g N ad [.int (zI x0), .int (zI x1), .int (zI x2)] M F (zPv (fun M' F' => M = M' ∧ F = F')) := by
  refine zMt.of "java/lang/String" rfl (by decide +kernel) (Nat.le_of_ble_eq_true rfl) (fun {p e s m args below meth c ls} C0 Wd hl hret hlk hin => ?_)
  have hl : lv_has ls 3 [(0, .int (zI x0)), (1, .int (zI x1)), (2, .int (zI x2))] := hl
  refine z_iload_n C0 hl 0 rfl dJ0_checkBoundsBeginEnd_23922_0 ?_
  refine z_iload_n C0 hl 1 rfl dJ0_checkBoundsBeginEnd_23922_1 ?_
  refine z_iload_n C0 hl 2 rfl dJ0_checkBoundsBeginEnd_23922_2 ?_
  rcases zc_fm C0 with hZ | ⟨t9, hZ⟩
  · refine z_gets C0 Wd hZ zk_1068 dJ0_checkBoundsBeginEnd_23922_3 ?_
    refine z_invSi (As := [.int (zI x0), .int (zI x1), .int (zI x2), .null]) (rest := []) C0 Wd (ct_J3_fromTo_n l g N ad M F x0 x1 x2 h0 h1) kw_J3_fromTo zk_1070 rfl hl.1 rfl (Nat.le_of_ble_eq_true rfl) (by decide) (by decide) dJ0_checkBoundsBeginEnd_23922_6 (fun r M1 F1 H locs hr hp Wd => ?_)
    obtain ⟨rfl, rfl, rfl⟩ := hp
    refine z_pop C0 rfl dJ0_checkBoundsBeginEnd_23922_9 ?_
    exact z_vret C0 Wd hret hlk ⟨rfl, rfl⟩ dJ0_checkBoundsBeginEnd_23922_10
  · refine z_gets C0 Wd hZ zk_1068 dJ0_checkBoundsBeginEnd_23922_3 ?_
    refine z_invSi (As := [.int (zI x0), .int (zI x1), .int (zI x2), .ref t9]) (rest := []) C0 Wd (ct_J3_fromTo_r l g N ad M F t9 x0 x1 x2 h0 h1) kw_J3_fromTo zk_1070 rfl hl.1 rfl (Nat.le_of_ble_eq_true rfl) (by decide) (by decide) dJ0_checkBoundsBeginEnd_23922_6 (fun r M1 F1 H locs hr hp Wd => ?_)
    obtain ⟨rfl, rfl, rfl⟩ := hp
    refine z_pop C0 rfl dJ0_checkBoundsBeginEnd_23922_9 ?_
    exact z_vret C0 Wd hret hlk ⟨rfl, rfl⟩ dJ0_checkBoundsBeginEnd_23922_10
set_option maxHeartbeats 4000000 in
theorem sw_new0 (l : Launch) (g : zG) (v : Nat) : sMt l yJ1_newString_b4f7a cJ1_newString_b4f7a 3 (some (.object "java/lang/String")) 3 3 64 g [] [(v, K3b)] [.ref v, .int (zI 0), .int (zI 0)] [] (fun r w1 => r = some (.ref (g.2.2.2 51)) ∧ w1 = []) := by
  refine sMt.of "java/lang/StringLatin1" rfl (by decide +kernel) (Nat.le_of_ble_eq_true rfl) (fun {p e s m args below meth c ls} C0 Wd hl hret hlk hin hF => ?_)
  have hl : lv_has ls 3 [(0, .ref v), (1, .int (zI 0)), (2, .int (zI 0))] := hl
  refine z_iload_n C0 hl 2 rfl dJ1_newString_b4f7a_0 ?_
  refine z_if_ne C0 (tgt := 7) (zR_mk (by decide) (by decide)) dJ1_newString_b4f7a_1 (by decide) (fun h => absurd rfl h) (fun _ => ?_)
  refine z_ldcr (tx := "") (a := g.2.2.2 51) C0 (zc_r C0 (q := ("java/lang/StringLatin1", 151, "", 51)) (by decide +kernel)) dJ1_newString_b4f7a_4 ?_
  refine W.widen (k := 3) (n := 64) (by decide) (by decide) ?_
  exact r_aret C0 Wd hret (Or.inl ⟨_, rfl⟩) hlk ⟨rfl, rfl⟩ dJ1_newString_b4f7a_6
set_option maxHeartbeats 4000000 in
theorem sw_new1 (l : Launch) (g : zG) (v n : Nat) (hn : 0 < n ∧ n < 3) : sMt l yJ1_newString_b4f7a cJ1_newString_b4f7a 3 (some (.object "java/lang/String")) 3 3 64 g [] [(v, K3b)] [.ref v, .int (zI 0), .int (zI (n : Int))] [] (fun r w1 => ∃ k q, r = some (.ref k) ∧ w1 = [STc k q, BAc g q n (zcb K3b n)]) := by
  refine sMt.of "java/lang/StringLatin1" rfl (by decide +kernel) (Nat.le_of_ble_eq_true rfl) (fun {p e s m args below meth c ls} C0 Wd hl hret hlk hin hF => ?_)
  have hl : lv_has ls 3 [(0, .ref v), (1, .int (zI 0)), (2, .int (zI (n : Int)))] := hl
  refine z_iload_n C0 hl 2 rfl dJ1_newString_b4f7a_0 ?_
  refine z_if_ne C0 (tgt := 7) (zR_mk (by omega) (by omega)) dJ1_newString_b4f7a_1 (by decide) (fun _ => ?_) (fun h => absurd h (by omega))
  refine r_new C0 Wd inZ_S tyJ0 tyJ0_ok zk_1316 zk_576 zk_38 (ci := 9) rfl (fs := [.null, .int 0, .int (zI 0), .int (zI 0)]) (by intro j hj; have hc : j = 0 ∨ j = 1 ∨ j = 2 ∨ j = 3 := (by omega); rcases hc with rfl | rfl | rfl | rfl <;> rfl) (by decide) (by decide) dJ1_newString_b4f7a_7 (fun k H Wd => ?_)
  refine z_dup C0 rfl dJ1_newString_b4f7a_10 ?_
  refine z_aload_n C0 hl 0 rfl dJ1_newString_b4f7a_11 ?_
  refine z_iload_n C0 hl 1 rfl dJ1_newString_b4f7a_12 ?_
  refine z_iload_n C0 hl 1 rfl dJ1_newString_b4f7a_13 ?_
  refine z_iload_n C0 hl 2 rfl dJ1_newString_b4f7a_14 ?_
  refine z_iadd C0 dJ1_newString_b4f7a_15 ?_
  refine z_top (congrArg zI (Int.zero_add (n : Int))) ?_
  have hF1 : zFa [] [(v, K3b)] (va_A [] H.size) s H := (hF.kept Wd.2.2.2.1).narrow (rA_sub (wr := _) (wc := []) (r_eq Wd (List.append_nil _).symm) C0.2.2.2)
  refine s_invS (wr := _) (wc := []) (As := [.ref v, .int (zI 0), .int (zI (n : Int))]) (rest := [.ref k, .ref k]) C0 (r_eq Wd (List.append_nil _).symm) (sw_copyOfRange l g v K3b n (by decide) (fun j hj => zsx_b K3_lt _) hn.2) kw_J7_copyOfRange_39247 hF1 zk_1317 rfl hl.1 rfl (Nat.le_of_ble_eq_true rfl) (by decide) (by decide) dJ1_newString_b4f7a_16 (fun r w1 H locs hp Wd => ?_)
  obtain ⟨q, rfl, rfl⟩ := hp
  refine z_iconst C0 dJ1_newString_b4f7a_19 ?_
  refine s_init (wr := []) (As := [.ref q, .int (zI 0)]) (rest := [.ref k]) C0 Wd (sw_init2 l g k q n (zcb K3b n)) kw_J0_init_031fb zFa_0 zk_1318 rfl hl.1 rfl (Nat.le_of_ble_eq_true rfl) (by decide) (by decide) dJ1_newString_b4f7a_20 (fun r w1 H locs hp Wd => ?_)
  obtain ⟨rfl, rfl⟩ := hp
  refine W.widen (k := 3) (n := 64) (by decide) (by decide) ?_
  exact r_aret C0 Wd hret (Or.inl ⟨_, rfl⟩) hlk ⟨k, q, rfl, rfl⟩ dJ1_newString_b4f7a_23
set_option maxHeartbeats 8000000 in
theorem sw_sub (l : Launch) (g : zG) (n : Nat) (hn : n ≤ 3) : sMt l yJ0_substring_37a41 cJ0_substring_37a41 5 (some (.object "java/lang/String")) 4 3 64 g [] [] [.ref (g.2.2.2 43), .int (zI 0), .int (zI (n : Int))] [] (fun r w1 => ∃ q : Nat × Nat × List Int32, r = some (.ref q.1) ∧ zTR g w1 q ∧ q.2.2 = List.replicate n 33) := by
  refine sMt.of "java/lang/String" rfl (by decide +kernel) (Nat.le_of_ble_eq_true rfl) (fun {p e s m args below meth c ls} C0 Wd hl hret hlk hin _ => ?_)
  have hS : zStr (zB3s g).1 (zB3s g).2.1 (zB3s g).2.2 (va_A [] s.heap.size) s s.heap := zStr_c (q := (43, 83, K3b)) C0 (by decide +kernel) (locs := []) va_S.rf (fun _ h => h)
  have Wd : zW g (va_A [] s.heap.size) s.heap zN00 (fun _ => 0) (fun _ _ => 0) (fun _ _ => 0) s.heap [] := r_zW Wd (fun _ _ => zR_0)
  have hl : lv_has ls 5 [(0, .ref (g.2.2.2 43)), (1, .int (zI 0)), (2, .int (zI (n : Int)))] := hl
  have zn : zR (n : Int) := zR_mk (by omega) (by omega)
  refine z_aload_n C0 hl 0 rfl dJ0_substring_37a41_0 ?_
  refine z_invVs (As := []) (rest := []) C0 Wd (ct_J0_length_8abf5_s l g zN00 (fun _ => 0) (fun _ _ => 0) (fun _ _ => 0) (zB3s g) K3_lt) kv_J0_length_8abf5 (hS1 (X := fun z => zStr z.1 z.2.1 z.2.2 _ _ _) hS) (zrecvO C0 Wd hS.1) zk_1306 rfl hl.1 rfl (Nat.le_of_ble_eq_true rfl) (by decide) (by decide) dJ0_substring_37a41_1 (z_kki (fun r M1 F1 H locs hr hp Wd => ?_))
  obtain ⟨rfl, rfl, rfl⟩ := hp
  refine z_istore_n C0 hl [(3, .int (zI 3)), (0, .ref (g.2.2.2 43)), (1, .int (zI 0)), (2, .int (zI (n : Int)))] (by decide) rfl dJ0_substring_37a41_4 (fun ls hl => ?_)
  refine z_iload_n C0 hl 2 rfl dJ0_substring_37a41_5 ?_
  refine z_iload_n C0 hl 3 rfl dJ0_substring_37a41_6 ?_
  refine z_iload_n C0 hl 0 rfl dJ0_substring_37a41_7 ?_
  refine z_invS (As := [.int (zI 0), .int (zI (n : Int)), .int (zI 3)]) (rest := []) C0 Wd (ct_J0_bounds l g zN00 (fun _ => 0) (fun _ _ => 0) (fun _ _ => 0) 0 (n : Int) 3 ⟨by omega, by omega⟩ ⟨by omega, by omega⟩) kw_J0_bounds zk_1307 rfl hl.1 rfl (Nat.le_of_ble_eq_true rfl) (by decide) (by decide) dJ0_substring_37a41_8 (z_kkv (fun M1 F1 H locs hp Wd => ?_))
  obtain ⟨rfl, rfl⟩ := hp
  refine z_iload_n C0 hl 2 rfl dJ0_substring_37a41_11 ?_
  refine z_if_ne C0 (tgt := 22) (zR_mk (by decide) (by decide)) dJ0_substring_37a41_12 (by decide) (fun h => absurd rfl h) (fun _ => ?_)
  refine z_iload_n C0 hl 3 rfl dJ0_substring_37a41_15 ?_
  refine z_iload_n C0 hl 0 rfl dJ0_substring_37a41_16 ?_
  refine z_icmp_ne C0 (tgt := 22) zn (zR_mk (by decide) (by decide)) dJ0_substring_37a41_17 (by decide) (fun h => ?_) (fun h => ?_)
  · refine z_iload_n C0 hl 3 rfl dJ0_substring_37a41_22 ?_
    refine z_iload_n C0 hl 2 rfl dJ0_substring_37a41_23 ?_
    refine z_isub C0 dJ0_substring_37a41_24 ?_
    refine z_top (congrArg zI (show (n : Int) - 0 = (n : Int) by omega)) ?_
    refine z_istore C0 hl [(4, .int (zI (n : Int))), (3, .int (zI 3)), (0, .ref (g.2.2.2 43)), (1, .int (zI 0)), (2, .int (zI (n : Int)))] (by decide) rfl dJ0_substring_37a41_25 (fun ls hl => ?_)
    refine z_aload_n C0 hl 2 rfl dJ0_substring_37a41_27 ?_
    refine z_invVs (As := []) (rest := []) C0 Wd (ct_J0_isLatin1_aae02_s l g zN00 (fun _ => 0) (fun _ _ => 0) (fun _ _ => 0) (zB3s g) K3_lt) kv_J0_isLatin1_aae02 (hS1 (X := fun z => zStr z.1 z.2.1 z.2.2 _ _ _) hS) (zrecvO C0 Wd hS.1) zk_1308 rfl hl.1 rfl (Nat.le_of_ble_eq_true rfl) (by decide) (by decide) dJ0_substring_37a41_28 (z_kki (fun r M1 F1 H locs hr hp Wd => ?_))
    obtain ⟨rfl, rfl, rfl⟩ := hp
    refine z_if_eq C0 (tgt := 47) (zR_mk (by decide) (by decide)) dJ0_substring_37a41_31 (by decide) (fun h => absurd h (by decide)) (fun _ => ?_)
    refine z_aload_n C0 hl 2 rfl dJ0_substring_37a41_34 ?_
    refine z_getO C0 Wd hS.2.2.1 zk_1206 dJ0_substring_37a41_35 ?_
    refine z_iload_n C0 hl 3 rfl dJ0_substring_37a41_38 ?_
    refine z_iload C0 hl 0 rfl dJ0_substring_37a41_39 ?_
    have Wr : rW g (va_A [] s.heap.size) s.heap ([] ++ []) H locs := zW_r Wd
    have hF1 : zFa [] [(g.2.2.2 83, K3b)] (va_A [] H.size) s H := zFa.narrow (zFa.kept ⟨fun _ h => (nomatch h), fun t ht => by rw [List.mem_singleton.mp ht]; exact hS.2.2.2⟩ Wr.2.2.2.1) (rA_sub (wr := []) (wc := []) Wr C0.2.2.2)
    by_cases h0 : n = 0
    · subst h0
      refine s_invS (wr := []) (wc := []) (As := [.ref (g.2.2.2 83), .int (zI 0), .int (zI 0)]) (rest := []) C0 Wr (sw_new0 l g (g.2.2.2 83)) kw_J1_new hF1 zk_1312 rfl hl.1 rfl (Nat.le_of_ble_eq_true rfl) (by decide) (by decide) dJ0_substring_37a41_41 (fun r w1 H locs hp Wd => ?_)
      obtain ⟨rfl, rfl⟩ := hp
      refine z_goto C0 (tgt := 57) dJ0_substring_37a41_44 (by decide) ?_
      exact r_aret C0 Wd hret (Or.inl ⟨_, rfl⟩) hlk ⟨(g.2.2.2 51, g.2.2.2 91, []), rfl, Or.inr ⟨(51, 91, []), by decide +kernel, rfl⟩, rfl⟩ dJ0_substring_37a41_57
    · refine s_invS (wr := []) (wc := []) (As := [.ref (g.2.2.2 83), .int (zI 0), .int (zI (n : Int))]) (rest := []) C0 Wr (sw_new1 l g (g.2.2.2 83) n ⟨by omega, by omega⟩) kw_J1_new hF1 zk_1312 rfl hl.1 rfl (Nat.le_of_ble_eq_true rfl) (by decide) (by decide) dJ0_substring_37a41_41 (fun r w1 H locs hp Wd => ?_)
      obtain ⟨k, q, rfl, rfl⟩ := hp
      refine z_goto C0 (tgt := 57) dJ0_substring_37a41_44 (by decide) ?_
      refine r_aret C0 Wd hret (Or.inl ⟨_, rfl⟩) hlk ⟨(k, q, List.replicate n 33), rfl, Or.inl ⟨List.mem_cons_self, zcb K3b n, by rw [List.length_replicate]; exact List.mem_cons_of_mem _ List.mem_cons_self, fun j hj => ?_⟩, rfl⟩ dJ0_substring_37a41_57
      rw [List.length_replicate] at hj
      have hc : (n = 1 ∧ j = 0) ∨ (n = 2 ∧ (j = 0 ∨ j = 1)) := by omega
      rcases hc with ⟨rfl, rfl⟩ | ⟨rfl, rfl | rfl⟩ <;> rfl
  · have hn3 : n = 3 := by omega
    subst hn3
    refine z_aload_n C0 hl 1 rfl dJ0_substring_37a41_20 ?_
    refine W.widen (k := 3) (n := 64) (by decide) (by decide) ?_
    exact r_aret C0 (zW_r Wd) hret (Or.inl ⟨_, rfl⟩) hlk ⟨zB3s g, rfl, Or.inr ⟨(43, 83, K3b), by decide +kernel, rfl⟩, rfl⟩ dJ0_substring_37a41_21
section ZLSUB
variable {g : zG} {A : Nat → Prop} {p : Program} {l : Launch} {e : Env} {R : Room} {s : State} {m : MethodId} {args : Array Value} {below : List Frame} {meth : Method} {c : Code} {H : Heap} {locs : List Loc} {cells slots : Nat} {Q : State → Prop}
variable {cc : ByteArray} {nL : Nat} {pc : Nat} {ls : Array Slot} {rest st0 : List Value} {ad : Int → Nat} {M F : zMem} {X0 : va_W} {lo : Int} {hi : Nat}
theorem lb_sub (n : Nat) (hn : n ≤ 3) (C0 : zC g A p s m args c cc nL "DrumWarrenLaw") (Wd : zW g A s.heap (lo, hi, X0) ad M F H locs) (hsz : ls.size = nL) (hst : (rest.map fun v => v.category).sum ≤ 8) (hR : 5 ≤ R.frames ∧ 300 ≤ R.locals) (hf : cells + 3 ≤ R.cells ∧ slots + 64 ≤ R.slots) (hdg : decode cc pc = .ok (.invokevirtual 304, 3))
    (kk : ∀ (q : Nat × Nat × List Int32) (w2 : va_W) (H1 : Heap) (locs1 : List Loc), q.2.2 = List.replicate n 33 → zTR g w2 q → zW g A s.heap (lo, hi, w2 ++ X0) ad M F H1 locs1 → W p l e R s m args below meth c H1 locs1 (cells + 3) (slots + 64) Q (F0 m (pc + 3) ls (.ref q.1 :: rest))) : W p l e R s m args below meth c H locs cells slots Q (F0 m pc ls (.int (zI (n : Int)) :: .int (zI 0) :: .ref (g.2.2.2 43) :: rest)) := by
  have hM0 := Wd.2
  have Wr : rW g A s.heap (wl g (lo, hi, X0) ad M F ++ []) H locs := r_eq (zW_r Wd) (List.append_nil _).symm
  have hS : zStr (zB3s g).1 (zB3s g).2.1 (zB3s g).2.2 (va_A [] H.size) s H := zStr_c (q := (43, 83, K3b)) C0 (by decide +kernel) Wr.2.2 (rA_sub Wr C0.2.2.2)
  refine s_invV (wr := wl g (lo, hi, X0) ad M F) (wc := []) (As := [.int (zI 0), .int (zI (n : Int))]) (rest := rest) C0 Wr (sw_sub l g n hn) kw_J0_sub zFa_0 ?_ zk_1302 rfl hsz rfl hst ⟨by have := hR.1; omega, by have := hR.2; omega⟩ hf hdg (fun v w1 H locs hp Wr => ?_)
  · exact zrecvO C0 Wd (zStr_c (q := (43, 83, K3b)) C0 (by decide +kernel) (locs := []) (va_S.rf : va_S A s.heap s.heap []) (fun _ h => h)).1
  · obtain ⟨q, rfl, h1, h2⟩ := hp
    exact kk q w1 H locs h2 h1 (zW_perm (r_zW (r_eq Wr wl_app.symm) hM0) List.perm_append_comm)
end ZLSUB
