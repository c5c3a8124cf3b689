/-! the class writes a message -/
/-- the class's text of the message at p -/
def zwM (p : Int) (V : Int → Int) (M : zMem) : zMem := zapR (V (96 + 47 * p + 5)).toNat (zapC (V (96 + 47 * p + 4)) (zapI (V (96 + 47 * p + 3)) (zapC 61 (zapI (V (96 + 47 * p + 2)) (zapC 62 (zapI (V (96 + 47 * p + 1)) (zapC 58 (zapI (V (96 + 47 * p + 0)) (zst0 0 M)))))))))
/-- a code's five beats are written -/
def zcC (x : Int) (k : Nat) (M : zMem) : zMem := zfold (fun j T => zapC (if zbt x j = 1 then 120 else 46) T) k (zst0 0 M)
theorem zcC_row {x : Int} {k : Nat} {M : zMem} {i : Int} (h1 : i ≠ 396) (h2 : i ≠ 397) (j : Int) : zcC x k M i j = M i j := by
  induction k with
  | zero => exact zst0_row h1 h2 j
  | succ k ih =>
    show zapC _ (zcC x k M) i j = _
    rw [zapC_row h1 h2, ih]
theorem zcC_n {x : Int} {M : zMem} (k : Nat) : zcC x k M 396 3 = (k : Int) := by
  induction k with
  | zero => exact zst0_n
  | succ k ih =>
    show zapC (if zbt x (k : Int) = 1 then 120 else 46) (zcC x k M) 396 3 = _
    rw [zapC_n, ih]
    omega
theorem zcC_c {x : Int} {M : zMem} (k : Nat) : zcC x k M 396 1 = M 396 1 := by
  induction k with
  | zero => exact zst0_c
  | succ k ih =>
    show zapC (if zbt x (k : Int) = 1 then 120 else 46) (zcC x k M) 396 1 = _
    rw [zapC_c, ih]
set_option maxHeartbeats 4000000 in
set_option maxRecDepth 100000 in
theorem ct_J4_append_cf468_s (l : Launch) (g : zG) (N : zNs) (zb6 : zIn N 396) (zb7 : zIn N 397) (ad : Int → Nat) (zM0 zF0 : zMem) (x0 : Int) (hx0 : zR x0) (hc : zM0 396 1 = 0) (h3 : 0 ≤ zM0 396 3 ∧ zM0 396 3 < 16) (hch : 0 ≤ x0 ∧ x0 < 128) : zMt l yJ4_append_cf468 cJ4_append_cf468 2 (some (.object "java/lang/StringBuilder")) 2 0 0 g N ad [.ref (ad 396), .int (zI x0)] zM0 zF0 (zPr ad (fun r M' F' => 396 = r ∧ (zapC x0 zM0) = M' ∧ zF0 = F')) := by
  refine zMt.of "java/lang/StringBuilder" rfl (by decide +kernel) (Nat.le_of_ble_eq_true rfl) (fun {p e s m args below meth c ls} C0 Wd hl hret hlk hin => ?_)
  have hl : lv_has ls 2 [(0, .ref (ad 396)), (1, .int (zI x0))] := hl
  refine z_aload_n C0 hl 0 rfl dJ4_append_cf468_0 ?_
  refine z_iload_n C0 hl 1 rfl dJ4_append_cf468_1 ?_
  refine z_invSU (As := [.int (zI x0)]) (rest := []) C0 Wd (ct_J5_append_3fe6f l g N zb6 zb7 ad zM0 zF0 x0 hx0 (by omega) (by omega) (by omega)) ku_J5_append_3fe6f (zrecvW C0 Wd zb6 (zE_10 zK396) rfl) zk_1252 rfl hl.1 rfl (Nat.le_of_ble_eq_true rfl) (by decide) (by decide) dJ4_append_cf468_2 (z_kkr (fun r1 zMr1 zFr1 H locs hp Wd => ?_))
  obtain ⟨rfl, rfl, rfl⟩ := hp
  refine z_pop C0 rfl dJ4_append_cf468_5 ?_
  refine z_aload_n C0 hl 0 rfl dJ4_append_cf468_6 ?_
  exact z_aret C0 Wd hret hlk ⟨rfl, rfl, rfl⟩ dJ4_append_cf468_7
set_option maxHeartbeats 4000000 in
set_option maxRecDepth 100000 in
theorem ct_J4_setLength_d00df_s (l : Launch) (g : zG) (N : zNs) (zb6 : zIn N 396) (zb7 : zIn N 397) (ad : Int → Nat) (zM0 zF0 : zMem) (x0 : Int) (hx0 : zR x0) (hc : zM0 396 1 = 0) (h3 : 0 ≤ zM0 396 3 ∧ zM0 396 3 ≤ 16) (hx : x0 = 0) : zMt l yJ4_setLength_d00df cJ4_setLength_d00df 2 none 2 0 0 g N ad [.ref (ad 396), .int (zI x0)] zM0 zF0 (zPv (fun M' F' => (zst0 x0 zM0) = M' ∧ zF0 = F')) := by
  refine zMt.of "java/lang/StringBuilder" rfl (by decide +kernel) (Nat.le_of_ble_eq_true rfl) (fun {p e s m args below meth c ls} C0 Wd hl hret hlk hin => ?_)
  have hl : lv_has ls 2 [(0, .ref (ad 396)), (1, .int (zI x0))] := hl
  refine z_aload_n C0 hl 0 rfl dJ4_setLength_d00df_0 ?_
  refine z_iload_n C0 hl 1 rfl dJ4_setLength_d00df_1 ?_
  refine z_invSU (As := [.int (zI x0)]) (rest := []) C0 Wd (ct_J5_setLength_d00df l g N zb6 zb7 ad zM0 zF0 x0 hx0 (by omega) (by omega) (by omega)) ku_J5_setLength_d00df (zrecvW C0 Wd zb6 (zE_10 zK396) rfl) zk_998 rfl hl.1 rfl (Nat.le_of_ble_eq_true rfl) (by decide) (by decide) dJ4_setLength_d00df_2 (z_kkv (fun zMr1 zFr1 H locs hp Wd => ?_))
  rcases hp with ⟨hr1_0_0, rfl, rfl⟩ | ⟨hr1_1_0, rfl, rfl⟩
  · skip
    exact z_vret C0 Wd hret hlk ⟨by unfold zst0; rw [if_pos (by omega)], rfl⟩ dJ4_setLength_d00df_5
  · skip
    exact z_vret C0 Wd hret hlk ⟨by unfold zst0; rw [if_neg (by omega)], rfl⟩ dJ4_setLength_d00df_5
theorem kv_X11_writeMessage : zKV yX11_writeMessage cX11_writeMessage 4 (some .int) "DrumWarren" 1 := ⟨zk_993, zk_991, zk_992, zk_25, by decide, by decide, by decide +kernel⟩
set_option maxHeartbeats 4000000 in
set_option maxRecDepth 100000 in
theorem ct_X11_writeMessage (l : Launch) (g : zG) (zX : va_W) (ad : Int → Nat) (zM0 zF0 : zMem) (V : Int → Int) (zt : Int) (x0 : Int) (hx0 : zR x0) (hR : zRS 1 V zM0 zF0) (hI : zIV zt V) (hU : zId V) (hc : zM0 396 1 = 0) (hz16 : 0 ≤ zM0 396 3 ∧ zM0 396 3 ≤ 16) (hD : ∀ q, 0 ≤ q → q < V 2 → V (96 + 47 * q + 0) < 10000) : zMx l yX11_writeMessage cX11_writeMessage 4 (some .int) 8 1 6 g (0, 398, zX) ad [.ref (ad 0), .int (zI x0)] zM0 zF0 (zPi (fun r M' F' => ((zpl x0 V ≠ -1) ∧ (zwM (zpl x0 V) V zM0 396 3) = r ∧ (zwM (zpl x0 V) V zM0) = M' ∧ zF0 = F'))) (fun E M' F' => E = "java/util/NoSuchElementException" ∧ ¬ (zpl x0 V ≠ -1) ∧ zM0 = M' ∧ zF0 = F') := by
  refine zMx.of "DrumWarren" rfl (by decide +kernel) (Nat.le_of_ble_eq_true rfl) (fun {p e s m args below meth c ls} C0 Wd hl hret hlk hin hst hno => ?_)
  have hl : lv_has ls 4 [(0, .ref (ad 0)), (1, .int (zI x0))] := hl
  have h0b := hI.1
  have h1b := hI.2.1
  have h2b := hI.2.2.1
  refine z_aload_n C0 hl 0 rfl dX11_writeMessage_0 ?_
  refine z_iload_n C0 hl 1 rfl dX11_writeMessage_1 ?_
  refine z_invVX (As := [.int (zI x0)]) (rest := []) C0 Wd hst hno hlk (ct_X11_existing l g zX ad zM0 zF0 V zt x0 hx0 hR hI (by omega)) kv_X11_existing (zrecvW C0 Wd zN0 (zE_8 zK0) rfl) zk_890 rfl hl.1 rfl (Nat.le_of_ble_eq_true rfl) (by decide) (by decide) (by decide) (by decide) (fun E M9 F9 h9 => h9) dX11_writeMessage_2 (z_kkr (fun r1 zMr1 zFr1 H locs hp Wd => ?_))
  rcases hp with ⟨hr1_0_0, rfl, rfl, rfl⟩
  · skip
    have hpl : -1 ≤ zpl x0 V ∧ zpl x0 V < V 2 := by have := zlast_bd (P := fun q => V (96 + 47 * q + 0) = x0) (V 2).toNat; show -1 ≤ zlast _ _ ∧ zlast _ _ < V 2; omega
    have hmb := zMo_bd (hR.mo (p := zpl x0 V) (by omega) (by omega))
    obtain ⟨hm0, hm1, hm2, hm3, hm4, hm5, hm6⟩ := hI.2.2.2.2.2.2.1 (zpl x0 V) (by omega) (by omega)
    have hmd := hD (zpl x0 V) (by omega) (by omega)
    have h1b := hI.2.1
    refine z_astore_n C0 hl [(2, .ref (ad (zF0 7 (zpl x0 V)))), (0, .ref (ad 0)), (1, .int (zI x0))] (by decide) rfl dX11_writeMessage_5 (fun ls hl => ?_)
    refine z_aload_n C0 hl 1 rfl dX11_writeMessage_6 ?_
    refine zg_8_5 C0 Wd zN0 zK0 zk_348 dX11_writeMessage_7 ?_
    refine z_iconst C0 dX11_writeMessage_10 ?_
    refine z_invVv (As := [.int (zI 0)]) (rest := []) C0 Wd (ct_J4_setLength_d00df_s l g (0, 398, zX) zN396 zN397 ad zM0 zF0 0 (zR_mk (by decide) (by decide)) (by omega) (by omega) (by omega)) kv_J4_setLength_d00df zN396 (zE_10 zK396) rfl zk_994 rfl hl.1 rfl (Nat.le_of_ble_eq_true rfl) (by decide) (by decide) dX11_writeMessage_11 (fun zMr3 zFr3 H locs hp Wd => ?_)
    obtain ⟨rfl, rfl⟩ := hp
    have hn5 : (zst0 0 zM0) 396 3 = 0 := zst0_n
    have hc6 : (zst0 0 zM0) 396 1 = 0 := zst0_c.trans hc
    refine z_aload_n C0 hl 1 rfl dX11_writeMessage_14 ?_
    refine zg_8_5 C0 Wd zN0 zK0 zk_348 dX11_writeMessage_15 ?_
    refine z_aload_n C0 hl 0 rfl dX11_writeMessage_18 ?_
    refine zg_6_0 C0 Wd (znO (hR.mo (by omega) (by omega))) (zkO (hR.mo (by omega) (by omega))) zk_156 dX11_writeMessage_19 ?_
    obtain ⟨he8, hz7⟩ : ((zst0 0 zM0) (zF0 7 (zpl x0 V)) 0) = (V (96 + 47 * (zpl x0 V) + 0)) ∧ zR (V (96 + 47 * (zpl x0 V) + 0)) := (fun q => ⟨q, q ▸ Wd.rm _ _⟩) ((zst0_row (by omega) (by omega) _).trans (hR.m0 (by omega) (by omega)))
    refine z_top (congrArg zI he8) ?_
    clear he8
    have hv0 := (zlen_h (V (96 + 47 * (zpl x0 V) + 0))).2.2.2 (by omega)
    refine z_invVr (As := [.int (zI (V (96 + 47 * (zpl x0 V) + 0)))]) (rest := []) C0 Wd (ct_J4_append_bf812 l g (0, 398, zX) zN396 zN397 ad (zst0 0 zM0) zF0 (V (96 + 47 * (zpl x0 V) + 0)) hz7 (by omega) (by omega) (by omega)) kv_J4_append_bf812 zN396 (zE_10 zK396) rfl zk_1247 rfl hl.1 rfl (Nat.le_of_ble_eq_true rfl) (by decide) (by decide) dX11_writeMessage_22 (fun r9 zMr9 zFr9 H locs hp Wd => ?_)
    obtain ⟨rfl, rfl, rfl⟩ := hp
    have hn11 : (zapI (V (96 + 47 * (zpl x0 V) + 0)) (zst0 0 zM0)) 396 3 = (zst0 0 zM0) 396 3 + zlen (V (96 + 47 * (zpl x0 V) + 0)) := zapI_n
    have hyhn11 := zlen_b (V (96 + 47 * (zpl x0 V) + 0))
    have hc12 : (zapI (V (96 + 47 * (zpl x0 V) + 0)) (zst0 0 zM0)) 396 1 = 0 := zapI_c.trans hc6
    refine z_bipush C0 dX11_writeMessage_25 (by decide) ?_
    refine z_invVr (As := [.int (zI 58)]) (rest := []) C0 Wd (ct_J4_append_cf468_s l g (0, 398, zX) zN396 zN397 ad (zapI (V (96 + 47 * (zpl x0 V) + 0)) (zst0 0 zM0)) zF0 58 (zR_mk (by decide) (by decide)) (by omega) (by omega) (by omega)) kv_J4_append_cf468 zN396 (zE_10 zK396) rfl zk_1248 rfl hl.1 rfl (Nat.le_of_ble_eq_true rfl) (by decide) (by decide) dX11_writeMessage_27 (fun r13 zMr13 zFr13 H locs hp Wd => ?_)
    obtain ⟨rfl, rfl, rfl⟩ := hp
    have hn15 : (zapC 58 (zapI (V (96 + 47 * (zpl x0 V) + 0)) (zst0 0 zM0))) 396 3 = (zapI (V (96 + 47 * (zpl x0 V) + 0)) (zst0 0 zM0)) 396 3 + 1 := zapC_n
    have hc16 : (zapC 58 (zapI (V (96 + 47 * (zpl x0 V) + 0)) (zst0 0 zM0))) 396 1 = 0 := zapC_c.trans hc12
    refine z_aload_n C0 hl 0 rfl dX11_writeMessage_30 ?_
    refine zg_6_1 C0 Wd (znO (hR.mo (by omega) (by omega))) (zkO (hR.mo (by omega) (by omega))) zk_159 dX11_writeMessage_31 ?_
    obtain ⟨he18, hz17⟩ : ((zapC 58 (zapI (V (96 + 47 * (zpl x0 V) + 0)) (zst0 0 zM0))) (zF0 7 (zpl x0 V)) 1) = (V (96 + 47 * (zpl x0 V) + 1)) ∧ zR (V (96 + 47 * (zpl x0 V) + 1)) := (fun q => ⟨q, q ▸ Wd.rm _ _⟩) ((zapC_row (by omega) (by omega) _).trans ((zapI_row (by omega) (by omega) _).trans ((zst0_row (by omega) (by omega) _).trans (hR.m1 (by omega) (by omega)))))
    refine z_top (congrArg zI he18) ?_
    clear he18
    have hv1 := (zlen_h (V (96 + 47 * (zpl x0 V) + 1))).1 (by omega)
    refine z_invVr (As := [.int (zI (V (96 + 47 * (zpl x0 V) + 1)))]) (rest := []) C0 Wd (ct_J4_append_bf812 l g (0, 398, zX) zN396 zN397 ad (zapC 58 (zapI (V (96 + 47 * (zpl x0 V) + 0)) (zst0 0 zM0))) zF0 (V (96 + 47 * (zpl x0 V) + 1)) hz17 (by omega) (by omega) (by omega)) kv_J4_append_bf812 zN396 (zE_10 zK396) rfl zk_1247 rfl hl.1 rfl (Nat.le_of_ble_eq_true rfl) (by decide) (by decide) dX11_writeMessage_34 (fun r19 zMr19 zFr19 H locs hp Wd => ?_)
    obtain ⟨rfl, rfl, rfl⟩ := hp
    have hn21 : (zapI (V (96 + 47 * (zpl x0 V) + 1)) (zapC 58 (zapI (V (96 + 47 * (zpl x0 V) + 0)) (zst0 0 zM0)))) 396 3 = (zapC 58 (zapI (V (96 + 47 * (zpl x0 V) + 0)) (zst0 0 zM0))) 396 3 + zlen (V (96 + 47 * (zpl x0 V) + 1)) := zapI_n
    have hyhn21 := zlen_b (V (96 + 47 * (zpl x0 V) + 1))
    have hc22 : (zapI (V (96 + 47 * (zpl x0 V) + 1)) (zapC 58 (zapI (V (96 + 47 * (zpl x0 V) + 0)) (zst0 0 zM0)))) 396 1 = 0 := zapI_c.trans hc16
    refine z_bipush C0 dX11_writeMessage_37 (by decide) ?_
    refine z_invVr (As := [.int (zI 62)]) (rest := []) C0 Wd (ct_J4_append_cf468_s l g (0, 398, zX) zN396 zN397 ad (zapI (V (96 + 47 * (zpl x0 V) + 1)) (zapC 58 (zapI (V (96 + 47 * (zpl x0 V) + 0)) (zst0 0 zM0)))) zF0 62 (zR_mk (by decide) (by decide)) (by omega) (by omega) (by omega)) kv_J4_append_cf468 zN396 (zE_10 zK396) rfl zk_1248 rfl hl.1 rfl (Nat.le_of_ble_eq_true rfl) (by decide) (by decide) dX11_writeMessage_39 (fun r23 zMr23 zFr23 H locs hp Wd => ?_)
    obtain ⟨rfl, rfl, rfl⟩ := hp
    have hn25 : (zapC 62 (zapI (V (96 + 47 * (zpl x0 V) + 1)) (zapC 58 (zapI (V (96 + 47 * (zpl x0 V) + 0)) (zst0 0 zM0))))) 396 3 = (zapI (V (96 + 47 * (zpl x0 V) + 1)) (zapC 58 (zapI (V (96 + 47 * (zpl x0 V) + 0)) (zst0 0 zM0)))) 396 3 + 1 := zapC_n
    have hc26 : (zapC 62 (zapI (V (96 + 47 * (zpl x0 V) + 1)) (zapC 58 (zapI (V (96 + 47 * (zpl x0 V) + 0)) (zst0 0 zM0))))) 396 1 = 0 := zapC_c.trans hc22
    refine z_pop C0 rfl dX11_writeMessage_42 ?_
    refine z_aload_n C0 hl 1 rfl dX11_writeMessage_43 ?_
    refine zg_8_5 C0 Wd zN0 zK0 zk_348 dX11_writeMessage_44 ?_
    refine z_aload_n C0 hl 0 rfl dX11_writeMessage_47 ?_
    refine zg_6_2 C0 Wd (znO (hR.mo (by omega) (by omega))) (zkO (hR.mo (by omega) (by omega))) zk_162 dX11_writeMessage_48 ?_
    obtain ⟨he28, hz27⟩ : ((zapC 62 (zapI (V (96 + 47 * (zpl x0 V) + 1)) (zapC 58 (zapI (V (96 + 47 * (zpl x0 V) + 0)) (zst0 0 zM0))))) (zF0 7 (zpl x0 V)) 2) = (V (96 + 47 * (zpl x0 V) + 2)) ∧ zR (V (96 + 47 * (zpl x0 V) + 2)) := (fun q => ⟨q, q ▸ Wd.rm _ _⟩) ((zapC_row (by omega) (by omega) _).trans ((zapI_row (by omega) (by omega) _).trans ((zapC_row (by omega) (by omega) _).trans ((zapI_row (by omega) (by omega) _).trans ((zst0_row (by omega) (by omega) _).trans (hR.m2 (by omega) (by omega)))))))
    refine z_top (congrArg zI he28) ?_
    clear he28
    have hv2 := (zlen_h (V (96 + 47 * (zpl x0 V) + 2))).1 (by omega)
    refine z_invVr (As := [.int (zI (V (96 + 47 * (zpl x0 V) + 2)))]) (rest := []) C0 Wd (ct_J4_append_bf812 l g (0, 398, zX) zN396 zN397 ad (zapC 62 (zapI (V (96 + 47 * (zpl x0 V) + 1)) (zapC 58 (zapI (V (96 + 47 * (zpl x0 V) + 0)) (zst0 0 zM0))))) zF0 (V (96 + 47 * (zpl x0 V) + 2)) hz27 (by omega) (by omega) (by omega)) kv_J4_append_bf812 zN396 (zE_10 zK396) rfl zk_1247 rfl hl.1 rfl (Nat.le_of_ble_eq_true rfl) (by decide) (by decide) dX11_writeMessage_51 (fun r29 zMr29 zFr29 H locs hp Wd => ?_)
    obtain ⟨rfl, rfl, rfl⟩ := hp
    have hn31 : (zapI (V (96 + 47 * (zpl x0 V) + 2)) (zapC 62 (zapI (V (96 + 47 * (zpl x0 V) + 1)) (zapC 58 (zapI (V (96 + 47 * (zpl x0 V) + 0)) (zst0 0 zM0)))))) 396 3 = (zapC 62 (zapI (V (96 + 47 * (zpl x0 V) + 1)) (zapC 58 (zapI (V (96 + 47 * (zpl x0 V) + 0)) (zst0 0 zM0))))) 396 3 + zlen (V (96 + 47 * (zpl x0 V) + 2)) := zapI_n
    have hyhn31 := zlen_b (V (96 + 47 * (zpl x0 V) + 2))
    have hc32 : (zapI (V (96 + 47 * (zpl x0 V) + 2)) (zapC 62 (zapI (V (96 + 47 * (zpl x0 V) + 1)) (zapC 58 (zapI (V (96 + 47 * (zpl x0 V) + 0)) (zst0 0 zM0)))))) 396 1 = 0 := zapI_c.trans hc26
    refine z_bipush C0 dX11_writeMessage_54 (by decide) ?_
    refine z_invVr (As := [.int (zI 61)]) (rest := []) C0 Wd (ct_J4_append_cf468_s l g (0, 398, zX) zN396 zN397 ad (zapI (V (96 + 47 * (zpl x0 V) + 2)) (zapC 62 (zapI (V (96 + 47 * (zpl x0 V) + 1)) (zapC 58 (zapI (V (96 + 47 * (zpl x0 V) + 0)) (zst0 0 zM0)))))) zF0 61 (zR_mk (by decide) (by decide)) (by omega) (by omega) (by omega)) kv_J4_append_cf468 zN396 (zE_10 zK396) rfl zk_1248 rfl hl.1 rfl (Nat.le_of_ble_eq_true rfl) (by decide) (by decide) dX11_writeMessage_56 (fun r33 zMr33 zFr33 H locs hp Wd => ?_)
    obtain ⟨rfl, rfl, rfl⟩ := hp
    have hn35 : (zapC 61 (zapI (V (96 + 47 * (zpl x0 V) + 2)) (zapC 62 (zapI (V (96 + 47 * (zpl x0 V) + 1)) (zapC 58 (zapI (V (96 + 47 * (zpl x0 V) + 0)) (zst0 0 zM0))))))) 396 3 = (zapI (V (96 + 47 * (zpl x0 V) + 2)) (zapC 62 (zapI (V (96 + 47 * (zpl x0 V) + 1)) (zapC 58 (zapI (V (96 + 47 * (zpl x0 V) + 0)) (zst0 0 zM0)))))) 396 3 + 1 := zapC_n
    have hc36 : (zapC 61 (zapI (V (96 + 47 * (zpl x0 V) + 2)) (zapC 62 (zapI (V (96 + 47 * (zpl x0 V) + 1)) (zapC 58 (zapI (V (96 + 47 * (zpl x0 V) + 0)) (zst0 0 zM0))))))) 396 1 = 0 := zapC_c.trans hc32
    refine z_aload_n C0 hl 0 rfl dX11_writeMessage_59 ?_
    refine zg_6_3 C0 Wd (znO (hR.mo (by omega) (by omega))) (zkO (hR.mo (by omega) (by omega))) zk_165 dX11_writeMessage_60 ?_
    obtain ⟨he38, hz37⟩ : ((zapC 61 (zapI (V (96 + 47 * (zpl x0 V) + 2)) (zapC 62 (zapI (V (96 + 47 * (zpl x0 V) + 1)) (zapC 58 (zapI (V (96 + 47 * (zpl x0 V) + 0)) (zst0 0 zM0))))))) (zF0 7 (zpl x0 V)) 3) = (V (96 + 47 * (zpl x0 V) + 3)) ∧ zR (V (96 + 47 * (zpl x0 V) + 3)) := (fun q => ⟨q, q ▸ Wd.rm _ _⟩) ((zapC_row (by omega) (by omega) _).trans ((zapI_row (by omega) (by omega) _).trans ((zapC_row (by omega) (by omega) _).trans ((zapI_row (by omega) (by omega) _).trans ((zapC_row (by omega) (by omega) _).trans ((zapI_row (by omega) (by omega) _).trans ((zst0_row (by omega) (by omega) _).trans (hR.m3 (by omega) (by omega)))))))))
    refine z_top (congrArg zI he38) ?_
    clear he38
    have hv3 := (zlen_h (V (96 + 47 * (zpl x0 V) + 3))).2.1 (by omega)
    refine z_invVr (As := [.int (zI (V (96 + 47 * (zpl x0 V) + 3)))]) (rest := []) C0 Wd (ct_J4_append_bf812 l g (0, 398, zX) zN396 zN397 ad (zapC 61 (zapI (V (96 + 47 * (zpl x0 V) + 2)) (zapC 62 (zapI (V (96 + 47 * (zpl x0 V) + 1)) (zapC 58 (zapI (V (96 + 47 * (zpl x0 V) + 0)) (zst0 0 zM0))))))) zF0 (V (96 + 47 * (zpl x0 V) + 3)) hz37 (by omega) (by omega) (by omega)) kv_J4_append_bf812 zN396 (zE_10 zK396) rfl zk_1247 rfl hl.1 rfl (Nat.le_of_ble_eq_true rfl) (by decide) (by decide) dX11_writeMessage_63 (fun r39 zMr39 zFr39 H locs hp Wd => ?_)
    obtain ⟨rfl, rfl, rfl⟩ := hp
    have hn41 : (zapI (V (96 + 47 * (zpl x0 V) + 3)) (zapC 61 (zapI (V (96 + 47 * (zpl x0 V) + 2)) (zapC 62 (zapI (V (96 + 47 * (zpl x0 V) + 1)) (zapC 58 (zapI (V (96 + 47 * (zpl x0 V) + 0)) (zst0 0 zM0)))))))) 396 3 = (zapC 61 (zapI (V (96 + 47 * (zpl x0 V) + 2)) (zapC 62 (zapI (V (96 + 47 * (zpl x0 V) + 1)) (zapC 58 (zapI (V (96 + 47 * (zpl x0 V) + 0)) (zst0 0 zM0))))))) 396 3 + zlen (V (96 + 47 * (zpl x0 V) + 3)) := zapI_n
    have hyhn41 := zlen_b (V (96 + 47 * (zpl x0 V) + 3))
    have hc42 : (zapI (V (96 + 47 * (zpl x0 V) + 3)) (zapC 61 (zapI (V (96 + 47 * (zpl x0 V) + 2)) (zapC 62 (zapI (V (96 + 47 * (zpl x0 V) + 1)) (zapC 58 (zapI (V (96 + 47 * (zpl x0 V) + 0)) (zst0 0 zM0)))))))) 396 1 = 0 := zapI_c.trans hc36
    refine z_aload_n C0 hl 0 rfl dX11_writeMessage_66 ?_
    refine zg_6_4 C0 Wd (znO (hR.mo (by omega) (by omega))) (zkO (hR.mo (by omega) (by omega))) zk_168 dX11_writeMessage_67 ?_
    obtain ⟨he44, hz43⟩ : ((zapI (V (96 + 47 * (zpl x0 V) + 3)) (zapC 61 (zapI (V (96 + 47 * (zpl x0 V) + 2)) (zapC 62 (zapI (V (96 + 47 * (zpl x0 V) + 1)) (zapC 58 (zapI (V (96 + 47 * (zpl x0 V) + 0)) (zst0 0 zM0)))))))) (zF0 7 (zpl x0 V)) 4) = (V (96 + 47 * (zpl x0 V) + 4)) ∧ zR (V (96 + 47 * (zpl x0 V) + 4)) := (fun q => ⟨q, q ▸ Wd.rm _ _⟩) ((zapI_row (by omega) (by omega) _).trans ((zapC_row (by omega) (by omega) _).trans ((zapI_row (by omega) (by omega) _).trans ((zapC_row (by omega) (by omega) _).trans ((zapI_row (by omega) (by omega) _).trans ((zapC_row (by omega) (by omega) _).trans ((zapI_row (by omega) (by omega) _).trans ((zst0_row (by omega) (by omega) _).trans (hR.m4 (by omega) (by omega))))))))))
    refine z_top (congrArg zI he44) ?_
    clear he44
    refine z_invVr (As := [.int (zI (V (96 + 47 * (zpl x0 V) + 4)))]) (rest := []) C0 Wd (ct_J4_append_cf468_s l g (0, 398, zX) zN396 zN397 ad (zapI (V (96 + 47 * (zpl x0 V) + 3)) (zapC 61 (zapI (V (96 + 47 * (zpl x0 V) + 2)) (zapC 62 (zapI (V (96 + 47 * (zpl x0 V) + 1)) (zapC 58 (zapI (V (96 + 47 * (zpl x0 V) + 0)) (zst0 0 zM0)))))))) zF0 (V (96 + 47 * (zpl x0 V) + 4)) hz43 (by omega) (by omega) (by omega)) kv_J4_append_cf468 zN396 (zE_10 zK396) rfl zk_1248 rfl hl.1 rfl (Nat.le_of_ble_eq_true rfl) (by decide) (by decide) dX11_writeMessage_70 (fun r45 zMr45 zFr45 H locs hp Wd => ?_)
    obtain ⟨rfl, rfl, rfl⟩ := hp
    have hn47 : (zapC (V (96 + 47 * (zpl x0 V) + 4)) (zapI (V (96 + 47 * (zpl x0 V) + 3)) (zapC 61 (zapI (V (96 + 47 * (zpl x0 V) + 2)) (zapC 62 (zapI (V (96 + 47 * (zpl x0 V) + 1)) (zapC 58 (zapI (V (96 + 47 * (zpl x0 V) + 0)) (zst0 0 zM0))))))))) 396 3 = (zapI (V (96 + 47 * (zpl x0 V) + 3)) (zapC 61 (zapI (V (96 + 47 * (zpl x0 V) + 2)) (zapC 62 (zapI (V (96 + 47 * (zpl x0 V) + 1)) (zapC 58 (zapI (V (96 + 47 * (zpl x0 V) + 0)) (zst0 0 zM0)))))))) 396 3 + 1 := zapC_n
    have hc48 : (zapC (V (96 + 47 * (zpl x0 V) + 4)) (zapI (V (96 + 47 * (zpl x0 V) + 3)) (zapC 61 (zapI (V (96 + 47 * (zpl x0 V) + 2)) (zapC 62 (zapI (V (96 + 47 * (zpl x0 V) + 1)) (zapC 58 (zapI (V (96 + 47 * (zpl x0 V) + 0)) (zst0 0 zM0))))))))) 396 1 = 0 := zapC_c.trans hc42
    refine z_pop C0 rfl dX11_writeMessage_73 ?_
    refine z_iconst C0 dX11_writeMessage_74 ?_
    refine z_istore_n C0 hl [(3, .int (zI 0)), (2, .ref (ad (zF0 7 (zpl x0 V)))), (0, .ref (ad 0)), (1, .int (zI x0))] (by decide) rfl dX11_writeMessage_75 (fun ls hl => ?_)
    have aft76 : ∀ (k76 : Nat) (hk76 : (k76 : Int) ≤ (V (96 + 47 * (zpl x0 V) + 5))) (hx76 : (k76 : Int) = (V (96 + 47 * (zpl x0 V) + 5))) (H : Heap) (locs : List Loc) (ls : Array Slot) (Wd : zW g (zA (0, 398, zX) ad s.heap.size) s.heap (0, 398, zX) ad (zapR k76 (zapC (V (96 + 47 * (zpl x0 V) + 4)) (zapI (V (96 + 47 * (zpl x0 V) + 3)) (zapC 61 (zapI (V (96 + 47 * (zpl x0 V) + 2)) (zapC 62 (zapI (V (96 + 47 * (zpl x0 V) + 1)) (zapC 58 (zapI (V (96 + 47 * (zpl x0 V) + 0)) (zst0 0 zM0)))))))))) zF0 H locs) (hl : lv_has ls 4 [(0, .ref (ad 0)), (1, .int (zI x0)), (2, .ref (ad (zF0 7 (zpl x0 V)))), (3, .int (zI (k76 : Int)))]), W p l e (zrm 8 1 6) s m args below meth c H locs 1 6 (zXQ below g (0, 398, zX) ad (zPi (fun r M' F' => ((zpl x0 V ≠ -1) ∧ (zwM (zpl x0 V) V zM0 396 3) = r ∧ (zwM (zpl x0 V) V zM0) = M' ∧ zF0 = F'))) (fun E M' F' => E = "java/util/NoSuchElementException" ∧ ¬ (zpl x0 V ≠ -1) ∧ zM0 = M' ∧ zF0 = F') args s 1 6) (F0 m 100 ls []) := by
      intro k76 hk76  hx76 H locs ls Wd hl
      replace hl : lv_has ls 4 [(0, .ref (ad 0)), (1, .int (zI x0)), (2, .ref (ad (zF0 7 (zpl x0 V))))] := lv_sub hl [0, 1, 2] rfl
      have hk9 : (V (96 + 47 * (zpl x0 V) + 5)).toNat = k76 := by omega
      have hw9 : zwM (zpl x0 V) V zM0 = (zapR k76 (zapC (V (96 + 47 * (zpl x0 V) + 4)) (zapI (V (96 + 47 * (zpl x0 V) + 3)) (zapC 61 (zapI (V (96 + 47 * (zpl x0 V) + 2)) (zapC 62 (zapI (V (96 + 47 * (zpl x0 V) + 1)) (zapC 58 (zapI (V (96 + 47 * (zpl x0 V) + 0)) (zst0 0 zM0)))))))))) := by show zapR (V (96 + 47 * (zpl x0 V) + 5)).toNat _ = _; rw [hk9]; try rfl
      refine z_aload_n C0 hl 0 rfl dX11_writeMessage_100 ?_
      refine zg_8_5 C0 Wd zN0 zK0 zk_348 dX11_writeMessage_101 ?_
      refine z_invVi (As := []) (rest := []) C0 Wd (ct_J4_length_8abf5 l g (0, 398, zX) zN396 zN397 ad (zapR k76 (zapC (V (96 + 47 * (zpl x0 V) + 4)) (zapI (V (96 + 47 * (zpl x0 V) + 3)) (zapC 61 (zapI (V (96 + 47 * (zpl x0 V) + 2)) (zapC 62 (zapI (V (96 + 47 * (zpl x0 V) + 1)) (zapC 58 (zapI (V (96 + 47 * (zpl x0 V) + 0)) (zst0 0 zM0)))))))))) zF0) kv_J4_length_8abf5 zN396 (zE_10 zK396) rfl zk_1270 rfl hl.1 rfl (Nat.le_of_ble_eq_true rfl) (by decide) (by decide) dX11_writeMessage_104 (fun r49 zMr49 zFr49 H locs hrr49 hp Wd => ?_)
      obtain ⟨rfl, rfl, rfl⟩ := hp
      exact z_xret (z_iret C0 Wd hret hlk hrr49 ⟨by omega, by rw [hw9], hw9, rfl⟩ dX11_writeMessage_107) (by decide) (by decide)
    have lp76 : ∀ (d76 k76 : Nat) (hk76 : (k76 : Int) + d76 = (V (96 + 47 * (zpl x0 V) + 5))) (H : Heap) (locs : List Loc) (ls : Array Slot) (Wd : zW g (zA (0, 398, zX) ad s.heap.size) s.heap (0, 398, zX) ad (zapR k76 (zapC (V (96 + 47 * (zpl x0 V) + 4)) (zapI (V (96 + 47 * (zpl x0 V) + 3)) (zapC 61 (zapI (V (96 + 47 * (zpl x0 V) + 2)) (zapC 62 (zapI (V (96 + 47 * (zpl x0 V) + 1)) (zapC 58 (zapI (V (96 + 47 * (zpl x0 V) + 0)) (zst0 0 zM0)))))))))) zF0 H locs) (hl : lv_has ls 4 [(0, .ref (ad 0)), (1, .int (zI x0)), (2, .ref (ad (zF0 7 (zpl x0 V)))), (3, .int (zI (k76 : Int)))]), W p l e (zrm 8 1 6) s m args below meth c H locs 1 6 (zXQ below g (0, 398, zX) ad (zPi (fun r M' F' => ((zpl x0 V ≠ -1) ∧ (zwM (zpl x0 V) V zM0 396 3) = r ∧ (zwM (zpl x0 V) V zM0) = M' ∧ zF0 = F'))) (fun E M' F' => E = "java/util/NoSuchElementException" ∧ ¬ (zpl x0 V ≠ -1) ∧ zM0 = M' ∧ zF0 = F') args s 1 6) (F0 m 76 ls []) := by
      intro d76
      induction d76 with
      | zero =>
        intro k76 hk76  H locs ls Wd hl
        have hr9 := zapR_n (M := (zapC (V (96 + 47 * (zpl x0 V) + 4)) (zapI (V (96 + 47 * (zpl x0 V) + 3)) (zapC 61 (zapI (V (96 + 47 * (zpl x0 V) + 2)) (zapC 62 (zapI (V (96 + 47 * (zpl x0 V) + 1)) (zapC 58 (zapI (V (96 + 47 * (zpl x0 V) + 0)) (zst0 0 zM0)))))))))) k76
        have hr8 := (zapR_c (M := (zapC (V (96 + 47 * (zpl x0 V) + 4)) (zapI (V (96 + 47 * (zpl x0 V) + 3)) (zapC 61 (zapI (V (96 + 47 * (zpl x0 V) + 2)) (zapC 62 (zapI (V (96 + 47 * (zpl x0 V) + 1)) (zapC 58 (zapI (V (96 + 47 * (zpl x0 V) + 0)) (zst0 0 zM0)))))))))) k76).trans hc48
        refine z_iload_n C0 hl 3 rfl dX11_writeMessage_76 ?_
        refine z_aload_n C0 hl 2 rfl dX11_writeMessage_77 ?_
        refine zg_6_5 C0 Wd (znO (hR.mo (by omega) (by omega))) (zkO (hR.mo (by omega) (by omega))) zk_171 dX11_writeMessage_78 ?_
        obtain ⟨he52, hz51⟩ : ((zapR k76 (zapC (V (96 + 47 * (zpl x0 V) + 4)) (zapI (V (96 + 47 * (zpl x0 V) + 3)) (zapC 61 (zapI (V (96 + 47 * (zpl x0 V) + 2)) (zapC 62 (zapI (V (96 + 47 * (zpl x0 V) + 1)) (zapC 58 (zapI (V (96 + 47 * (zpl x0 V) + 0)) (zst0 0 zM0)))))))))) (zF0 7 (zpl x0 V)) 5) = (V (96 + 47 * (zpl x0 V) + 5)) ∧ zR (V (96 + 47 * (zpl x0 V) + 5)) := (fun q => ⟨q, q ▸ Wd.rm _ _⟩) ((zapR_row (by omega) (by omega) _).trans ((zapC_row (by omega) (by omega) _).trans ((zapI_row (by omega) (by omega) _).trans ((zapC_row (by omega) (by omega) _).trans ((zapI_row (by omega) (by omega) _).trans ((zapC_row (by omega) (by omega) _).trans ((zapI_row (by omega) (by omega) _).trans ((zapC_row (by omega) (by omega) _).trans ((zapI_row (by omega) (by omega) _).trans ((zst0_row (by omega) (by omega) _).trans (hR.m5 (by omega) (by omega))))))))))))
        refine z_top (congrArg zI he52) ?_
        clear he52
        refine z_icmp_ge C0 (tgt := 100) (zR_mk (by omega) (by omega)) hz51 dX11_writeMessage_81 (by decide) (fun c53 => ?_) (fun c53 => ?_)
        · skip
          first | exact aft76 k76 (by omega)  (by first | assumption | omega) _ _ _ Wd (lv_sub hl [0, 1, 2, 3] rfl) | (exfalso; omega)
        · skip
          exfalso; omega
      | succ d76 ih76 =>
        intro k76 hk76  H locs ls Wd hl
        have hr9 := zapR_n (M := (zapC (V (96 + 47 * (zpl x0 V) + 4)) (zapI (V (96 + 47 * (zpl x0 V) + 3)) (zapC 61 (zapI (V (96 + 47 * (zpl x0 V) + 2)) (zapC 62 (zapI (V (96 + 47 * (zpl x0 V) + 1)) (zapC 58 (zapI (V (96 + 47 * (zpl x0 V) + 0)) (zst0 0 zM0)))))))))) k76
        have hr8 := (zapR_c (M := (zapC (V (96 + 47 * (zpl x0 V) + 4)) (zapI (V (96 + 47 * (zpl x0 V) + 3)) (zapC 61 (zapI (V (96 + 47 * (zpl x0 V) + 2)) (zapC 62 (zapI (V (96 + 47 * (zpl x0 V) + 1)) (zapC 58 (zapI (V (96 + 47 * (zpl x0 V) + 0)) (zst0 0 zM0)))))))))) k76).trans hc48
        refine z_iload_n C0 hl 3 rfl dX11_writeMessage_76 ?_
        refine z_aload_n C0 hl 2 rfl dX11_writeMessage_77 ?_
        refine zg_6_5 C0 Wd (znO (hR.mo (by omega) (by omega))) (zkO (hR.mo (by omega) (by omega))) zk_171 dX11_writeMessage_78 ?_
        obtain ⟨he55, hz54⟩ : ((zapR k76 (zapC (V (96 + 47 * (zpl x0 V) + 4)) (zapI (V (96 + 47 * (zpl x0 V) + 3)) (zapC 61 (zapI (V (96 + 47 * (zpl x0 V) + 2)) (zapC 62 (zapI (V (96 + 47 * (zpl x0 V) + 1)) (zapC 58 (zapI (V (96 + 47 * (zpl x0 V) + 0)) (zst0 0 zM0)))))))))) (zF0 7 (zpl x0 V)) 5) = (V (96 + 47 * (zpl x0 V) + 5)) ∧ zR (V (96 + 47 * (zpl x0 V) + 5)) := (fun q => ⟨q, q ▸ Wd.rm _ _⟩) ((zapR_row (by omega) (by omega) _).trans ((zapC_row (by omega) (by omega) _).trans ((zapI_row (by omega) (by omega) _).trans ((zapC_row (by omega) (by omega) _).trans ((zapI_row (by omega) (by omega) _).trans ((zapC_row (by omega) (by omega) _).trans ((zapI_row (by omega) (by omega) _).trans ((zapC_row (by omega) (by omega) _).trans ((zapI_row (by omega) (by omega) _).trans ((zst0_row (by omega) (by omega) _).trans (hR.m5 (by omega) (by omega))))))))))))
        refine z_top (congrArg zI he55) ?_
        clear he55
        refine z_icmp_ge C0 (tgt := 100) (zR_mk (by omega) (by omega)) hz54 dX11_writeMessage_81 (by decide) (fun c56 => ?_) (fun c56 => ?_)
        · skip
          first | exact aft76 k76 (by omega)  (by first | assumption | omega) _ _ _ Wd (lv_sub hl [0, 1, 2, 3] rfl) | (exfalso; omega)
        · skip
          refine z_aload_n C0 hl 0 rfl dX11_writeMessage_84 ?_
          refine zg_8_5 C0 Wd zN0 zK0 zk_348 dX11_writeMessage_85 ?_
          refine z_bipush C0 dX11_writeMessage_88 (by decide) ?_
          refine z_invVr (As := [.int (zI 33)]) (rest := []) C0 Wd (ct_J4_append_cf468_s l g (0, 398, zX) zN396 zN397 ad (zapR k76 (zapC (V (96 + 47 * (zpl x0 V) + 4)) (zapI (V (96 + 47 * (zpl x0 V) + 3)) (zapC 61 (zapI (V (96 + 47 * (zpl x0 V) + 2)) (zapC 62 (zapI (V (96 + 47 * (zpl x0 V) + 1)) (zapC 58 (zapI (V (96 + 47 * (zpl x0 V) + 0)) (zst0 0 zM0)))))))))) zF0 33 (zR_mk (by decide) (by decide)) (by omega) (by omega) (by omega)) kv_J4_append_cf468 zN396 (zE_10 zK396) rfl zk_1248 rfl hl.1 rfl (Nat.le_of_ble_eq_true rfl) (by decide) (by decide) dX11_writeMessage_90 (fun r57 zMr57 zFr57 H locs hp Wd => ?_)
          obtain ⟨rfl, rfl, rfl⟩ := hp
          refine z_pop C0 rfl dX11_writeMessage_93 ?_
          refine z_iinc C0 hl 3 (t := (k76 : Int)) (u := ((k76 : Int) + 1)) rfl (by omega) [(3, .int (zI ((k76 : Int) + 1))), (0, .ref (ad 0)), (1, .int (zI x0)), (2, .ref (ad (zF0 7 (zpl x0 V))))] (by decide) rfl dX11_writeMessage_94 (fun ls hl => ?_)
          refine z_goto C0 (tgt := 76) dX11_writeMessage_97 (by decide) ?_
          exact ih76 (k76 + 1) (by omega)  _ _ _ Wd (lv_sub hl [1, 2, 3, 0] rfl)
    exact lp76 ((V (96 + 47 * (zpl x0 V) + 5))).toNat 0 (by omega)  _ _ _ Wd (lv_sub hl [2, 3, 1, 0] rfl)
theorem kv_X11_writeCode : zKV yX11_writeCode cX11_writeCode 4 (some .int) "DrumWarren" 1 := ⟨zk_1467, zk_1465, zk_1466, zk_25, by decide, by decide, by decide +kernel⟩
set_option maxHeartbeats 4000000 in
set_option maxRecDepth 100000 in
theorem ct_X11_writeCode (l : Launch) (g : zG) (zX : va_W) (ad : Int → Nat) (zM0 zF0 : zMem) (x0 : Int) (hx0 : zR x0) (hc : zM0 396 1 = 0) (hz16 : 0 ≤ zM0 396 3 ∧ zM0 396 3 ≤ 16) : zMx l yX11_writeCode cX11_writeCode 4 (some .int) 8 1 6 g (0, 398, zX) ad [.ref (ad 0), .int (zI x0)] zM0 zF0 (zPi (fun r M' F' => (((0 ≤ x0 ∧ x0 ≤ 15)) ∧ 5 = r ∧ (zcC x0 5 zM0) = M' ∧ zF0 = F'))) (fun E M' F' => E = "java/lang/IllegalArgumentException" ∧ ¬ (0 ≤ x0 ∧ x0 ≤ 15) ∧ zM0 = M' ∧ zF0 = F') := by
  refine zMx.of "DrumWarren" rfl (by decide +kernel) (Nat.le_of_ble_eq_true rfl) (fun {p e s m args below meth c ls} C0 Wd hl hret hlk hin hst hno => ?_)
  have hl : lv_has ls 4 [(0, .ref (ad 0)), (1, .int (zI x0))] := hl
  refine z_iload_n C0 hl 1 rfl dX11_writeCode_0 ?_
  refine z_invSX (As := [.int (zI x0)]) (rest := []) C0 Wd hst hno hlk (ct_X11_checkNumber l g zX ad zM0 zF0 x0 hx0) kv_X11_checkNumber zk_1443 rfl hl.1 rfl (Nat.le_of_ble_eq_true rfl) (by decide) (by decide) (by decide) (by decide) (fun E M9 F9 h9 => h9) dX11_writeCode_1 (z_kkv (fun zMr1 zFr1 H locs hp Wd => ?_))
  rcases hp with ⟨hr1_0_0, rfl, rfl⟩
  · skip
    refine z_iload_n C0 hl 1 rfl dX11_writeCode_4 ?_
    refine z_invSi (As := [.int (zI x0)]) (rest := []) C0 Wd (ct_X11_codeOf l g zX ad zM0 zF0 x0 hx0 (by omega)) kv_X11_codeOf zk_1424 rfl hl.1 rfl (Nat.le_of_ble_eq_true rfl) (by decide) (by decide) dX11_writeCode_5 (fun r3 zMr3 zFr3 H locs hrr3 hp Wd => ?_)
    obtain ⟨rfl, rfl, rfl⟩ := hp
    refine z_istore_n C0 hl [(2, .int (zI (zcd x0))), (0, .ref (ad 0)), (1, .int (zI x0))] (by decide) rfl dX11_writeCode_8 (fun ls hl => ?_)
    have hcd9 := zcd_bd (x := x0) (by omega) (by omega)
    refine z_aload_n C0 hl 1 rfl dX11_writeCode_9 ?_
    refine zg_8_5 C0 Wd zN0 zK0 zk_348 dX11_writeCode_10 ?_
    refine z_iconst C0 dX11_writeCode_13 ?_
    refine z_invVv (As := [.int (zI 0)]) (rest := []) C0 Wd (ct_J4_setLength_d00df_s l g (0, 398, zX) zN396 zN397 ad zM0 zF0 0 (zR_mk (by decide) (by decide)) (by omega) (by omega) (by omega)) kv_J4_setLength_d00df zN396 (zE_10 zK396) rfl zk_994 rfl hl.1 rfl (Nat.le_of_ble_eq_true rfl) (by decide) (by decide) dX11_writeCode_14 (fun zMr5 zFr5 H locs hp Wd => ?_)
    obtain ⟨rfl, rfl⟩ := hp
    refine z_iconst C0 dX11_writeCode_17 ?_
    refine z_istore_n C0 hl [(3, .int (zI 0)), (2, .int (zI (zcd x0))), (0, .ref (ad 0)), (1, .int (zI x0))] (by decide) rfl dX11_writeCode_18 (fun ls hl => ?_)
    have aft19 : ∀ (k19 : Nat) (hk19 : (k19 : Int) ≤ 5) (M2 : zMem) (hw : M2 = zcC x0 k19 zM0) (hx19 : (k19 : Int) = 5) (H : Heap) (locs : List Loc) (ls : Array Slot) (Wd : zW g (zA (0, 398, zX) ad s.heap.size) s.heap (0, 398, zX) ad M2 zF0 H locs) (hl : lv_has ls 4 [(0, .ref (ad 0)), (1, .int (zI x0)), (2, .int (zI (zcd x0))), (3, .int (zI (k19 : Int)))]), W p l e (zrm 8 1 6) s m args below meth c H locs 1 6 (zXQ below g (0, 398, zX) ad (zPi (fun r M' F' => (((0 ≤ x0 ∧ x0 ≤ 15)) ∧ 5 = r ∧ (zcC x0 5 zM0) = M' ∧ zF0 = F'))) (fun E M' F' => E = "java/lang/IllegalArgumentException" ∧ ¬ (0 ≤ x0 ∧ x0 ≤ 15) ∧ zM0 = M' ∧ zF0 = F') args s 1 6) (F0 m 53 ls []) := by
      intro k19 hk19 M2 hw hx19 H locs ls Wd hl
      replace hl : lv_has ls 4 [(0, .ref (ad 0)), (1, .int (zI x0)), (2, .int (zI (zcd x0)))] := lv_sub hl [0, 1, 2] rfl
      have hn9 : M2 396 3 = (k19 : Int) := by rw [hw]; exact zcC_n k19
      refine z_aload_n C0 hl 0 rfl dX11_writeCode_53 ?_
      refine zg_8_5 C0 Wd zN0 zK0 zk_348 dX11_writeCode_54 ?_
      refine z_invVi (As := []) (rest := []) C0 Wd (ct_J4_length_8abf5 l g (0, 398, zX) zN396 zN397 ad M2 zF0) kv_J4_length_8abf5 zN396 (zE_10 zK396) rfl zk_1270 rfl hl.1 rfl (Nat.le_of_ble_eq_true rfl) (by decide) (by decide) dX11_writeCode_57 (fun r7 zMr7 zFr7 H locs hrr7 hp Wd => ?_)
      obtain ⟨rfl, rfl, rfl⟩ := hp
      exact z_xret (z_iret C0 Wd hret hlk hrr7 ⟨by first | assumption | omega, by omega, (by rw [hw, show k19 = 5 by omega]), rfl⟩ dX11_writeCode_60) (by decide) (by decide)
    have lp19 : ∀ (d19 k19 : Nat) (hk19 : (k19 : Int) + d19 = 5) (M2 : zMem) (hw : M2 = zcC x0 k19 zM0) (H : Heap) (locs : List Loc) (ls : Array Slot) (Wd : zW g (zA (0, 398, zX) ad s.heap.size) s.heap (0, 398, zX) ad M2 zF0 H locs) (hl : lv_has ls 4 [(0, .ref (ad 0)), (1, .int (zI x0)), (2, .int (zI (zcd x0))), (3, .int (zI (k19 : Int)))]), W p l e (zrm 8 1 6) s m args below meth c H locs 1 6 (zXQ below g (0, 398, zX) ad (zPi (fun r M' F' => (((0 ≤ x0 ∧ x0 ≤ 15)) ∧ 5 = r ∧ (zcC x0 5 zM0) = M' ∧ zF0 = F'))) (fun E M' F' => E = "java/lang/IllegalArgumentException" ∧ ¬ (0 ≤ x0 ∧ x0 ≤ 15) ∧ zM0 = M' ∧ zF0 = F') args s 1 6) (F0 m 19 ls []) := by
      intro d19
      induction d19 with
      | zero =>
        intro k19 hk19 M2 hw H locs ls Wd hl
        have hn9 : M2 396 3 = (k19 : Int) := by rw [hw]; exact zcC_n k19
        have hc9 : M2 396 1 = 0 := by rw [hw, zcC_c]; exact hc
        refine z_iload_n C0 hl 3 rfl dX11_writeCode_19 ?_
        refine z_iconst C0 dX11_writeCode_20 ?_
        refine z_icmp_ge C0 (tgt := 53) (zR_mk (by omega) (by omega)) (zR_mk (by decide) (by decide)) dX11_writeCode_21 (by decide) (fun c9 => ?_) (fun c9 => ?_)
        · skip
          first | exact aft19 k19 (by omega) M2 hw (by first | assumption | omega) _ _ _ Wd (lv_sub hl [0, 1, 2, 3] rfl) | (exfalso; omega)
        · skip
          exfalso; omega
      | succ d19 ih19 =>
        intro k19 hk19 M2 hw H locs ls Wd hl
        have hn9 : M2 396 3 = (k19 : Int) := by rw [hw]; exact zcC_n k19
        have hc9 : M2 396 1 = 0 := by rw [hw, zcC_c]; exact hc
        refine z_iload_n C0 hl 3 rfl dX11_writeCode_19 ?_
        refine z_iconst C0 dX11_writeCode_20 ?_
        refine z_icmp_ge C0 (tgt := 53) (zR_mk (by omega) (by omega)) (zR_mk (by decide) (by decide)) dX11_writeCode_21 (by decide) (fun c10 => ?_) (fun c10 => ?_)
        · skip
          first | exact aft19 k19 (by omega) M2 hw (by first | assumption | omega) _ _ _ Wd (lv_sub hl [0, 1, 2, 3] rfl) | (exfalso; omega)
        · skip
          refine z_aload_n C0 hl 0 rfl dX11_writeCode_24 ?_
          refine zg_8_5 C0 Wd zN0 zK0 zk_348 dX11_writeCode_25 ?_
          refine z_iload_n C0 hl 2 rfl dX11_writeCode_28 ?_
          refine z_iload_n C0 hl 3 rfl dX11_writeCode_29 ?_
          refine z_invSi (As := [.int (zI (zcd x0)), .int (zI (k19 : Int))]) (rest := [.ref (ad 396)]) C0 Wd (ct_X11_isOne l g zX ad M2 zF0 (zcd x0) hrr3 (k19 : Int) (zR_mk (by omega) (by omega)) (by omega) (by omega)) kv_X11_isOne zk_1449 rfl hl.1 rfl (Nat.le_of_ble_eq_true rfl) (by decide) (by decide) dX11_writeCode_30 (fun r11 zMr11 zFr11 H locs hrr11 hp Wd => ?_)
          obtain ⟨rfl, rfl, rfl⟩ := hp
          have hbt9 := zbt_is (n := x0) (b := (k19 : Int)) (by omega) (by omega)
          refine z_if_eq_b C0 (tgt := 41) dX11_writeCode_33 (by decide) (fun c13 => ?_) (fun c13 => ?_)
          · skip
            refine z_bipush C0 dX11_writeCode_41 (by decide) ?_
            refine z_invVr (As := [.int (zI 46)]) (rest := []) C0 Wd (ct_J4_append_cf468_s l g (0, 398, zX) zN396 zN397 ad M2 zF0 46 (zR_mk (by decide) (by decide)) (by omega) (by omega) (by omega)) kv_J4_append_cf468 zN396 (zE_10 zK396) rfl zk_1248 rfl hl.1 rfl (Nat.le_of_ble_eq_true rfl) (by decide) (by decide) dX11_writeCode_43 (fun r14 zMr14 zFr14 H locs hp Wd => ?_)
            obtain ⟨rfl, rfl, rfl⟩ := hp
            refine z_pop C0 rfl dX11_writeCode_46 ?_
            refine z_iinc C0 hl 3 (t := (k19 : Int)) (u := ((k19 : Int) + 1)) rfl (by omega) [(3, .int (zI ((k19 : Int) + 1))), (0, .ref (ad 0)), (1, .int (zI x0)), (2, .int (zI (zcd x0)))] (by decide) rfl dX11_writeCode_47 (fun ls hl => ?_)
            refine z_goto C0 (tgt := 19) dX11_writeCode_50 (by decide) ?_
            exact ih19 (k19 + 1) (by omega) (zapC 46 M2) (by rw [hw]; show _ = zapC (if zbt x0 (k19 : Int) = 1 then 120 else 46) (zcC x0 k19 _); rw [if_neg (by first | assumption | omega)]) _ _ _ Wd (lv_sub hl [1, 2, 3, 0] rfl)
          · skip
            refine z_bipush C0 dX11_writeCode_36 (by decide) ?_
            refine z_goto C0 (tgt := 43) dX11_writeCode_38 (by decide) ?_
            refine z_invVr (As := [.int (zI 120)]) (rest := []) C0 Wd (ct_J4_append_cf468_s l g (0, 398, zX) zN396 zN397 ad M2 zF0 120 (zR_mk (by decide) (by decide)) (by omega) (by omega) (by omega)) kv_J4_append_cf468 zN396 (zE_10 zK396) rfl zk_1248 rfl hl.1 rfl (Nat.le_of_ble_eq_true rfl) (by decide) (by decide) dX11_writeCode_43 (fun r16 zMr16 zFr16 H locs hp Wd => ?_)
            obtain ⟨rfl, rfl, rfl⟩ := hp
            refine z_pop C0 rfl dX11_writeCode_46 ?_
            refine z_iinc C0 hl 3 (t := (k19 : Int)) (u := ((k19 : Int) + 1)) rfl (by omega) [(3, .int (zI ((k19 : Int) + 1))), (0, .ref (ad 0)), (1, .int (zI x0)), (2, .int (zI (zcd x0)))] (by decide) rfl dX11_writeCode_47 (fun ls hl => ?_)
            refine z_goto C0 (tgt := 19) dX11_writeCode_50 (by decide) ?_
            exact ih19 (k19 + 1) (by omega) (zapC 120 M2) (by rw [hw]; show _ = zapC (if zbt x0 (k19 : Int) = 1 then 120 else 46) (zcC x0 k19 _); rw [if_pos (by first | assumption | omega)]) _ _ _ Wd (lv_sub hl [1, 2, 3, 0] rfl)
    exact lp19 5 0 (by omega) (zst0 0 zM0) rfl _ _ _ Wd (lv_sub hl [2, 3, 1, 0] rfl)
theorem kv_X11_outputCharacter : zKV yX11_outputCharacter cX11_outputCharacter 2 (some .char) "DrumWarren" 1 := ⟨zk_1277, zk_1275, zk_1276, zk_25, by decide, by decide, by decide +kernel⟩
set_option maxHeartbeats 4000000 in
set_option maxRecDepth 100000 in
theorem ct_X11_outputCharacter (l : Launch) (g : zG) (zX : va_W) (ad : Int → Nat) (zM0 zF0 : zMem) (x0 : Int) (hx0 : zR x0) (hc : zM0 396 1 = 0) (hz16 : 0 ≤ zM0 396 3 ∧ zM0 396 3 ≤ 16) (hv : ∀ j, 0 ≤ j → j < zM0 396 3 → 0 ≤ zM0 397 j ∧ zM0 397 j < 128) : zMx l yX11_outputCharacter cX11_outputCharacter 2 (some .char) 8 1 6 g (0, 398, zX) ad [.ref (ad 0), .int (zI x0)] zM0 zF0 (zPi (fun r M' F' => (((0 ≤ x0 ∧ x0 < zM0 396 3)) ∧ (zM0 397 x0) = r ∧ zM0 = M' ∧ zF0 = F'))) (fun E M' F' => E = "java/lang/IndexOutOfBoundsException" ∧ ¬ (0 ≤ x0 ∧ x0 < zM0 396 3) ∧ zM0 = M' ∧ zF0 = F') := by
  refine zMx.of "DrumWarren" rfl (by decide +kernel) (Nat.le_of_ble_eq_true rfl) (fun {p e s m args below meth c ls} C0 Wd hl hret hlk hin hst hno => ?_)
  have hl : lv_has ls 2 [(0, .ref (ad 0)), (1, .int (zI x0))] := hl
  refine z_iload_n C0 hl 1 rfl dX11_outputCharacter_0 ?_
  refine z_if_lt C0 (tgt := 15) hx0 dX11_outputCharacter_1 (by decide) (fun c1 => ?_) (fun c1 => ?_)
  · skip
    exact z_throwE (k := 3) C0 Wd hst hl.1 zTh_I (zc_r C0 (q := ("DrumWarren", 296, "no such character", 211)) (List.mem_of_getElem? (i := 23) rfl)) hno hlk dX11_outputCharacter_15 dX11_outputCharacter_18 (Or.inr ⟨rfl, dX11_outputCharacter_19⟩) dX11_outputCharacter_22 dX11_outputCharacter_25 (by decide) (by decide) (by decide) (by decide) (by exact ⟨rfl, by omega, rfl, rfl⟩)
  · skip
    refine z_iload_n C0 hl 1 rfl dX11_outputCharacter_4 ?_
    refine z_aload_n C0 hl 0 rfl dX11_outputCharacter_5 ?_
    refine zg_8_5 C0 Wd zN0 zK0 zk_348 dX11_outputCharacter_6 ?_
    refine z_invVi (As := []) (rest := [.int (zI x0)]) C0 Wd (ct_J4_length_8abf5 l g (0, 398, zX) zN396 zN397 ad zM0 zF0) kv_J4_length_8abf5 zN396 (zE_10 zK396) rfl zk_1270 rfl hl.1 rfl (Nat.le_of_ble_eq_true rfl) (by decide) (by decide) dX11_outputCharacter_9 (fun r2 zMr2 zFr2 H locs hrr2 hp Wd => ?_)
    obtain ⟨rfl, rfl, rfl⟩ := hp
    refine z_icmp_lt C0 (tgt := 26) hx0 hrr2 dX11_outputCharacter_12 (by decide) (fun c4 => ?_) (fun c4 => ?_)
    · skip
      have hv9 := hv x0 (by omega) (by omega)
      refine z_aload_n C0 hl 0 rfl dX11_outputCharacter_26 ?_
      refine zg_8_5 C0 Wd zN0 zK0 zk_348 dX11_outputCharacter_27 ?_
      refine z_iload_n C0 hl 1 rfl dX11_outputCharacter_30 ?_
      refine z_invVi (As := [.int (zI x0)]) (rest := []) C0 Wd (ct_J4_charAt_5068e l g (0, 398, zX) zN396 zN397 ad zM0 zF0 x0 hx0 (by omega) (by omega) (by omega) (by omega)) kv_J4_charAt_5068e zN396 (zE_10 zK396) rfl zk_1279 rfl hl.1 rfl (Nat.le_of_ble_eq_true rfl) (by decide) (by decide) dX11_outputCharacter_31 (fun r5 zMr5 zFr5 H locs hrr5 hp Wd => ?_)
      obtain ⟨rfl, rfl, rfl⟩ := hp
      exact z_xret (z_cret C0 Wd hret hlk (by omega) (by omega) (by first | exact ⟨(by first | assumption | omega), (by first | rfl | omega), (by first | rfl | (simp [zb, *]; done)), rfl⟩) dX11_outputCharacter_34) (by decide) (by decide)
    · skip
      exact z_throwE (k := 3) C0 Wd hst hl.1 zTh_I (zc_r C0 (q := ("DrumWarren", 296, "no such character", 211)) (List.mem_of_getElem? (i := 23) rfl)) hno hlk dX11_outputCharacter_15 dX11_outputCharacter_18 (Or.inr ⟨rfl, dX11_outputCharacter_19⟩) dX11_outputCharacter_22 dX11_outputCharacter_25 (by decide) (by decide) (by decide) (by decide) (by exact ⟨rfl, by omega, rfl, rfl⟩)
