/-! the small constructors -/
theorem ki_X7_init : zKI yX7_init cX7_init 1 0 := ⟨zk_130, zk_129, zk_29, by decide, by decide, rfl, by decide +kernel⟩
set_option maxHeartbeats 4000000 in
set_option maxRecDepth 100000 in
theorem ci_X7_init (l : Launch) (g : zG) (b : Nat) : rMt l yX7_init cX7_init 1 none 1 0 0 g [.ref b] [(b, .inr (4, [.int (zI 0), .int (zI 0), .int (zI 0), .int (zI 0)]))] (fun v w1 => v = none ∧ w1 = [(b, .inr (4, [.int (zI 0), .int (zI 0), .int (zI 0), .int (zI 0)]))]) := by
  refine rMt.of "DrumWarren$Hare" rfl (by decide +kernel) (Nat.le_of_ble_eq_true rfl) (fun {p e s m args below meth c ls} C0 Wd hl hret hlk hin hAO => ?_)
  have hl : lv_has ls 1 [(0, .ref b)] := hl
  refine z_aload_n C0 hl 0 rfl dX7_init_0 ?_
  refine r_obj C0 Wd zk_131 hl.1 (by decide) ⟨by decide, by decide⟩ dX7_init_1 ?_
  exact r_vret C0 Wd hret hlk ⟨rfl, rfl⟩ dX7_init_4
theorem ki_X1_init : zKI yX1_init cX1_init 1 0 := ⟨zk_121, zk_120, zk_28, by decide, by decide, rfl, by decide +kernel⟩
set_option maxHeartbeats 4000000 in
set_option maxRecDepth 100000 in
theorem ci_X1_init (l : Launch) (g : zG) (b : Nat) : rMt l yX1_init cX1_init 1 none 1 1 1024 g [.ref b] [(b, .inr (0, [.null]))] (fun v w1 => v = none ∧ ∃ q1, w1 = [(b, .inr (0, [.ref q1])), (q1, .inl (g.2.2.1 13, 1024, .inl (zRow (fun _ => 0))))]) := by
  refine rMt.of "DrumWarren$Air" rfl (by decide +kernel) (Nat.le_of_ble_eq_true rfl) (fun {p e s m args below meth c ls} C0 Wd hl hret hlk hin hAO => ?_)
  have hl : lv_has ls 1 [(0, .ref b)] := hl
  refine z_aload_n C0 hl 0 rfl dX1_init_0 ?_
  refine r_obj C0 Wd zk_122 hl.1 (by decide) ⟨by decide, by decide⟩ dX1_init_1 ?_
  refine z_aload_n C0 hl 0 rfl dX1_init_4 ?_
  refine z_sipush C0 dX1_init_5 (by decide) ?_
  refine r_newa (atype := .int) C0 Wd zk_112 rfl (ty := .int) (t := 2) (n := 1024) (a0 := (1024, .inl (zRow (fun _ => 0)))) rfl (fun _ => rfl) ⟨by decide, by decide⟩ rfl (by decide) (by decide) (by decide) dX1_init_8 (fun q1 H Wd => ?_)
  replace Wd := r_eq Wd (w1 := ([(b, .inr (0, [.null])), (q1, .inl (g.2.2.1 13, 1024, .inl (zRow (fun _ => 0))))] : va_W)) rfl
  refine r_putF C0 Wd inZ_0 tyX1 tyX1_ok nmX1 (q0 := 0) rfl rfl (k := 0) (by decide) zk_123 (fun _ h => h) rfl (hin rfl) rfl rfl rfl (Nat.le_of_ble_eq_true rfl) dX1_init_10 (fun H locs Wd => ?_)
  replace Wd := r_eq Wd (w1 := ([(b, .inr (0, [.ref q1])), (q1, .inl (g.2.2.1 13, 1024, .inl (zRow (fun _ => 0))))] : va_W)) rfl
  exact r_vret C0 Wd hret hlk ⟨rfl, _, rfl⟩ dX1_init_13
theorem ki_X9_init : zKI yX9_init cX9_init 1 0 := ⟨zk_152, zk_151, zk_30, by decide, by decide, rfl, by decide +kernel⟩
set_option maxHeartbeats 4000000 in
set_option maxRecDepth 100000 in
theorem ci_X9_init (l : Launch) (g : zG) (b : Nat) : rMt l yX9_init cX9_init 1 none 1 1 40 g [.ref b] [(b, .inr (6, [.int (zI 0), .int (zI 0), .int (zI 0), .int (zI 0), .int (zI 0), .int (zI 0), .int (zI 0), .null]))] (fun v w1 => v = none ∧ ∃ q1, w1 = [(b, .inr (6, [.int (zI 0), .int (zI 0), .int (zI 0), .int (zI 0), .int (zI 0), .int (zI 0), .int (zI 0), .ref q1])), (q1, .inl (g.2.2.1 13, 40, .inl (zRow (fun _ => 0))))]) := by
  refine rMt.of "DrumWarren$Message" rfl (by decide +kernel) (Nat.le_of_ble_eq_true rfl) (fun {p e s m args below meth c ls} C0 Wd hl hret hlk hin hAO => ?_)
  have hl : lv_has ls 1 [(0, .ref b)] := hl
  refine z_aload_n C0 hl 0 rfl dX9_init_0 ?_
  refine r_obj C0 Wd zk_153 hl.1 (by decide) ⟨by decide, by decide⟩ dX9_init_1 ?_
  refine z_aload_n C0 hl 0 rfl dX9_init_4 ?_
  refine z_bipush C0 dX9_init_5 (by decide) ?_
  refine r_newa (atype := .int) C0 Wd zk_112 rfl (ty := .int) (t := 2) (n := 40) (a0 := (40, .inl (zRow (fun _ => 0)))) rfl (fun _ => rfl) ⟨by decide, by decide⟩ rfl (by decide) (by decide) (by decide) dX9_init_7 (fun q1 H Wd => ?_)
  replace Wd := r_eq Wd (w1 := ([(b, .inr (6, [.int (zI 0), .int (zI 0), .int (zI 0), .int (zI 0), .int (zI 0), .int (zI 0), .int (zI 0), .null])), (q1, .inl (g.2.2.1 13, 40, .inl (zRow (fun _ => 0))))] : va_W)) rfl
  refine r_putF C0 Wd inZ_6 tyX9 tyX9_ok nmX9 (q0 := 0) rfl rfl (k := 7) (by decide) zk_175 (fun _ h => h) rfl (hin rfl) rfl rfl rfl (Nat.le_of_ble_eq_true rfl) dX9_init_9 (fun H locs Wd => ?_)
  replace Wd := r_eq Wd (w1 := ([(b, .inr (6, [.int (zI 0), .int (zI 0), .int (zI 0), .int (zI 0), .int (zI 0), .int (zI 0), .int (zI 0), .ref q1])), (q1, .inl (g.2.2.1 13, 40, .inl (zRow (fun _ => 0))))] : va_W)) rfl
  exact r_vret C0 Wd hret hlk ⟨rfl, _, rfl⟩ dX9_init_12
theorem ki_X3_init : zKI yX3_init cX3_init 1 0 := ⟨zk_268, zk_267, zk_33, by decide, by decide, rfl, by decide +kernel⟩
set_option maxHeartbeats 4000000 in
set_option maxRecDepth 100000 in
theorem ci_X3_init (l : Launch) (g : zG) (b : Nat) : rMt l yX3_init cX3_init 1 none 1 1 3 g [.ref b] [(b, .inr (2, [.null, .null, .int (zI 0)]))] (fun v w1 => v = none ∧ ∃ q1, w1 = [(b, .inr (2, [.ref (g.2.2.2 10), .ref q1, .int (zI 0)])), (q1, .inl (g.2.2.1 13, 3, .inl (zRow (fun _ => 0))))]) := by
  refine rMt.of "DrumWarren$Command" rfl (by decide +kernel) (Nat.le_of_ble_eq_true rfl) (fun {p e s m args below meth c ls} C0 Wd hl hret hlk hin hAO => ?_)
  have hl : lv_has ls 1 [(0, .ref b)] := hl
  refine z_aload_n C0 hl 0 rfl dX3_init_0 ?_
  refine r_obj C0 Wd zk_269 hl.1 (by decide) ⟨by decide, by decide⟩ dX3_init_1 ?_
  refine z_aload_n C0 hl 0 rfl dX3_init_4 ?_
  refine r_gets C0 Wd (zc_K0 C0) zk_270 dX3_init_5 ?_
  refine r_put C0 Wd inZ_2 tyX3 tyX3_ok nmX3 (q0 := 0) rfl rfl (k := 0) (by decide) zk_272 (fun _ h => h) rfl rfl rfl (Nat.le_of_ble_eq_true rfl) dX3_init_8 (fun H locs Wd => ?_)
  replace Wd := r_eq Wd (w1 := ([(b, .inr (2, [.ref (g.2.2.2 10), .null, .int (zI 0)]))] : va_W)) rfl
  refine z_aload_n C0 hl 0 rfl dX3_init_11 ?_
  refine z_iconst C0 dX3_init_12 ?_
  refine r_newa (atype := .int) C0 Wd zk_112 rfl (ty := .int) (t := 2) (n := 3) (a0 := (3, .inl (zRow (fun _ => 0)))) rfl (fun _ => rfl) ⟨by decide, by decide⟩ rfl (by decide) (by decide) (by decide) dX3_init_13 (fun q1 H Wd => ?_)
  replace Wd := r_eq Wd (w1 := ([(b, .inr (2, [.ref (g.2.2.2 10), .null, .int (zI 0)])), (q1, .inl (g.2.2.1 13, 3, .inl (zRow (fun _ => 0))))] : va_W)) rfl
  refine r_putF C0 Wd inZ_2 tyX3 tyX3_ok nmX3 (q0 := 0) rfl rfl (k := 1) (by decide) zk_275 (fun _ h => h) rfl (hin rfl) rfl rfl rfl (Nat.le_of_ble_eq_true rfl) dX3_init_15 (fun H locs Wd => ?_)
  replace Wd := r_eq Wd (w1 := ([(b, .inr (2, [.ref (g.2.2.2 10), .ref q1, .int (zI 0)])), (q1, .inl (g.2.2.1 13, 3, .inl (zRow (fun _ => 0))))] : va_W)) rfl
  exact r_vret C0 Wd hret hlk ⟨rfl, _, rfl⟩ dX3_init_18
theorem ki_J5_init_d00df : zKI yJ5_init_d00df cJ5_init_d00df 2 1 := ⟨zk_317, zk_316, zk_36, by decide, by decide, rfl, by decide +kernel⟩
set_option maxHeartbeats 4000000 in
set_option maxRecDepth 100000 in
theorem ci_J5_init_d00df (l : Launch) (g : zG) (b : Nat) : rMt l yJ5_init_d00df cJ5_init_d00df 2 none 1 1 16 g [.ref b, .int (zI 16)] [(b, .inr (10, [.null, .int (zI 0), .int (zI 0), .int (zI 0)]))] (fun v w1 => v = none ∧ ∃ q1, w1 = [(b, .inr (10, [.ref q1, .int (zI 0), .int (zI 0), .int (zI 0)])), (q1, .inl (g.2.2.1 11, 16, .inl (zRow (fun _ => 0))))]) := by
  refine rMt.of "java/lang/AbstractStringBuilder" rfl (by decide +kernel) (Nat.le_of_ble_eq_true rfl) (fun {p e s m args below meth c ls} C0 Wd hl hret hlk hin hAO => ?_)
  have hl : lv_has ls 2 [(0, .ref b), (1, .int (zI 16))] := hl
  refine z_aload_n C0 hl 0 rfl dJ5_init_d00df_0 ?_
  refine r_obj C0 Wd zk_318 hl.1 (by decide) ⟨by decide, by decide⟩ dJ5_init_d00df_1 ?_
  refine r_gets C0 Wd (zc_cs C0) zk_319 dJ5_init_d00df_4 ?_
  refine z_top (show (1 : Int32) = zI 1 from rfl) ?_
  refine z_if_eq C0 (tgt := 25) (zR_mk (by decide) (by decide)) dJ5_init_d00df_7 (by decide) (fun h => absurd h (by decide)) (fun _ => ?_)
  refine z_aload_n C0 hl 0 rfl dJ5_init_d00df_10 ?_
  refine z_iload_n C0 hl 1 rfl dJ5_init_d00df_11 ?_
  refine r_newa (atype := .byte) C0 Wd zk_342 rfl (ty := .byte) (t := 0) (n := 16) (a0 := (16, .inl (zRow (fun _ => 0)))) rfl (fun _ => rfl) ⟨by decide, by decide⟩ rfl (by decide) (by decide) (by decide) dJ5_init_d00df_12 (fun q1 H Wd => ?_)
  replace Wd := r_eq Wd (w1 := ([(b, .inr (10, [.null, .int (zI 0), .int (zI 0), .int (zI 0)])), (q1, .inl (g.2.2.1 11, 16, .inl (zRow (fun _ => 0))))] : va_W)) rfl
  refine r_put C0 Wd inZ_10 tyJ4 tyJ4_ok nmJ4 (q0 := 0) rfl rfl (k := 0) (by decide) zk_328 (fun _ h => h) rfl rfl rfl (Nat.le_of_ble_eq_true rfl) dJ5_init_d00df_14 (fun H locs Wd => ?_)
  replace Wd := r_eq Wd (w1 := ([(b, .inr (10, [.ref q1, .int (zI 0), .int (zI 0), .int (zI 0)])), (q1, .inl (g.2.2.1 11, 16, .inl (zRow (fun _ => 0))))] : va_W)) rfl
  refine z_aload_n C0 hl 0 rfl dJ5_init_d00df_17 ?_
  refine z_iconst C0 dJ5_init_d00df_18 ?_
  refine r_put C0 Wd inZ_10 tyJ4 tyJ4_ok nmJ4 (q0 := 0) rfl rfl (k := 1) (by decide) zk_329 (fun _ h => h) rfl rfl rfl (Nat.le_of_ble_eq_true rfl) dJ5_init_d00df_19 (fun H locs Wd => ?_)
  replace Wd := r_eq Wd (w1 := ([(b, .inr (10, [.ref q1, .int (zI 0), .int (zI 0), .int (zI 0)])), (q1, .inl (g.2.2.1 11, 16, .inl (zRow (fun _ => 0))))] : va_W)) rfl
  refine z_goto C0 (tgt := 38) dJ5_init_d00df_22 (by decide) ?_
  exact r_vret C0 Wd hret hlk ⟨rfl, _, rfl⟩ dJ5_init_d00df_38
theorem ki_J4_init_da8c8 : zKI yJ4_init_da8c8 cJ4_init_da8c8 1 0 := ⟨zk_314, zk_313, zk_37, by decide, by decide, rfl, by decide +kernel⟩
set_option maxHeartbeats 4000000 in
set_option maxRecDepth 100000 in
theorem ci_J4_init_da8c8 (l : Launch) (g : zG) (b : Nat) : rMt l yJ4_init_da8c8 cJ4_init_da8c8 1 none 2 1 16 g [.ref b] [(b, .inr (10, [.null, .int (zI 0), .int (zI 0), .int (zI 0)]))] (fun v w1 => v = none ∧ ∃ q1, w1 = [(b, .inr (10, [.ref q1, .int (zI 0), .int (zI 0), .int (zI 0)])), (q1, .inl (g.2.2.1 11, 16, .inl (zRow (fun _ => 0))))]) := by
  refine rMt.of "java/lang/StringBuilder" rfl (by decide +kernel) (Nat.le_of_ble_eq_true rfl) (fun {p e s m args below meth c ls} C0 Wd hl hret hlk hin hAO => ?_)
  have hl : lv_has ls 1 [(0, .ref b)] := hl
  refine z_aload_n C0 hl 0 rfl dJ4_init_da8c8_0 ?_
  refine z_bipush C0 dJ4_init_da8c8_1 (by decide) ?_
  refine r_init (wr := []) (wc := ([(b, .inr (10, [.null, .int (zI 0), .int (zI 0), .int (zI 0)]))] : va_W)) (As := [.int (zI 16)]) (rest := []) C0 hAO Wd (ci_J5_init_d00df l g b) ki_J5_init_d00df zk_315 rfl hl.1 rfl (by decide) ⟨by decide, by decide⟩ ⟨by decide, by decide⟩ dJ4_init_da8c8_3 (fun v w1 H locs hp Wd => ?_)
  obtain ⟨rfl, q1, rfl⟩ := hp
  replace Wd := r_eq Wd (w1 := ([(b, .inr (10, [.ref q1, .int (zI 0), .int (zI 0), .int (zI 0)])), (q1, .inl (g.2.2.1 11, 16, .inl (zRow (fun _ => 0))))] : va_W)) rfl
  exact r_vret C0 Wd hret hlk ⟨rfl, _, rfl⟩ dJ4_init_da8c8_6
