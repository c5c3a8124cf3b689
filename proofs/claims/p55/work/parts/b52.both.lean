/-! a text is appended that makes the builder grow; rules for both builders -/
abbrev C14 : List Int32 := [61, 49, 49, 59, 116, 105, 99, 107, 32, 51, 59, 103, 111, 32]
theorem C14_lt : zLt C14 := ⟨by decide, by decide⟩
abbrev zG2 (ad : Int → Nat) (q : Nat) : Int → Nat := fun i => if i = 402 then ad 396 else q
abbrev zM2 (M : zMem) : zMem := fun i j => if i = 402 then M 396 j else if 0 ≤ j ∧ j < 16 then M 397 j else 0
theorem zM2_T {M : zMem} {L : List Int} (h : zTx M L) (hl : L.length ≤ 16) : zTxG (zM2 M) L := by
  obtain ⟨a, b, c⟩ := h
  refine ⟨a, b, fun j hj => ?_⟩
  rw [c j hj]
  show _ = some (if (403 : Int) = 402 then M 396 j else if 0 ≤ (j : Int) ∧ (j : Int) < 16 then M 397 j else 0)
  rw [if_neg (by decide), if_pos (by omega)]
theorem zM2_R {M : zMem} (h : zRM M) : zRM (zM2 M) := fun i j => by
  show zR (if i = 402 then M 396 j else if 0 ≤ j ∧ j < 16 then M 397 j else 0)
  split
  · exact h _ _
  · split
    · exact h _ _
    · exact zR_0
set_option maxRecDepth 100000 in
theorem zM2_w {g : zG} {ad : Int → Nat} {M F : zMem} {q : Nat} : ([(ad 396, .inr (10, [.ref q, .int (zI (M 396 1)), .int (zI (M 396 2)), .int (zI (M 396 3))])), BAc g (ad 397) 16 (zRow (M 397)), BAc g q 34 (zcb (zbl M 397 16) 16)] : va_W).Perm (wl g (402, 404, [BAc g (ad 397) 16 (zRow (M 397))]) (zG2 ad q) (zM2 M) F) := by
  have e : zcb (zbl M 397 16) 16 = zRow (zM2 M 403) := by
    funext k
    show (if k < 16 then (zbl M 397 16).getD k 0 else 0) = zI (if (403 : Int) = 402 then M 396 k else if 0 ≤ (k : Int) ∧ (k : Int) < 16 then M 397 k else 0)
    rw [if_neg (show ¬ (403 : Int) = 402 by decide)]
    by_cases h : k < 16
    · rw [if_pos h, if_pos (by omega), zbl_at h]
      rfl
    · rw [if_neg h, if_neg (by omega)]
      rfl
  have e2 : wl g (402, 404, [BAc g (ad 397) 16 (zRow (M 397))]) (zG2 ad q) (zM2 M) F = wl g zWnG (zG2 ad q) (zM2 M) F ++ [BAc g (ad 397) 16 (zRow (M 397))] := wl_app (X := [])
  rw [e2, wl_winG, e]
  exact List.Perm.cons _ (List.Perm.swap _ _ _)
set_option maxHeartbeats 8000000 in
set_option maxRecDepth 100000 in
theorem sw_app5 (l : Launch) (g : zG) (ad : Int → Nat) (M F : zMem) (L : List Int) (hRM : zRM M) (hT : zTx M L) (hL : L.length = 14) (hb : zTB M) : sMt l yJ5_append_cf1ce cJ5_append_cf1ce 3 (some (.object "java/lang/AbstractStringBuilder")) 4 1 34 g [] [] [.ref (ad 396), .ref (g.2.2.2 49)] (wl g zWn ad M F) (fun v w1 => ∃ (ad2 : Int → Nat) (M3 F3 : zMem) (x : Nat × va_E), v = some (.ref (ad2 402)) ∧ ad2 402 = ad 396 ∧ zRM M3 ∧ zTxG M3 (L ++ C14.map Int32.toInt) ∧ w1 = wl g (402, 404, [x]) ad2 M3 F3) := by
  refine sMt.of "java/lang/AbstractStringBuilder" rfl (by decide +kernel) (Nat.le_of_ble_eq_true rfl) (fun {p e s m args below meth c ls} C0 Wr hl hret hlk hin _ => ?_)
  obtain ⟨hc, hn, -⟩ := id hT
  have hS : zStr (g.2.2.2 49) (g.2.2.2 89) C14 (va_A (wl g zWn ad M F) s.heap.size) s s.heap := zStr_c (q := (49, 89, C14)) C0 (by decide +kernel) (locs := []) va_S.rf (fun _ h => h)
  have Wd := r_zW Wr hRM
  have hl : lv_has ls 3 [(0, .ref (ad 396)), (1, .ref (g.2.2.2 49))] := hl
  refine z_aload_n C0 hl 1 rfl dJ5_append_cf1ce_0 ?_
  refine lv_ifnonnull C0.1.1 C0.1.2.1 (tgt := 9) dJ5_append_cf1ce_1 (by decide) ?_
  refine z_aload_n C0 hl 1 rfl dJ5_append_cf1ce_9 ?_
  refine z_invVs (As := []) (rest := []) C0 Wd (ct_J0_length_8abf5_s l g zWn ad M F (g.2.2.2 49, g.2.2.2 89, C14) C14_lt) kv_J0_length_8abf5 (hS1 (X := fun z => zStr z.1 z.2.1 z.2.2 _ _ _) hS) (zrecvO C0 Wd hS.1) zk_1082 rfl hl.1 rfl (Nat.le_of_ble_eq_true rfl) (by decide) (by decide) dJ5_append_cf1ce_10 (z_kki (fun r1 M1 F1 H locs hr1 hp Wd => ?_))
  obtain ⟨rfl, rfl, rfl⟩ := hp
  refine z_istore_n C0 hl [(2, .int (zI 14)), (0, .ref (ad 396)), (1, .ref (g.2.2.2 49))] (by decide) rfl dJ5_append_cf1ce_13 (fun ls hl => ?_)
  refine z_aload_n C0 hl 1 rfl dJ5_append_cf1ce_14 ?_
  refine z_aload_n C0 hl 1 rfl dJ5_append_cf1ce_15 ?_
  refine zg_10_3 C0 Wd zwn_b zK396 zk_332 dJ5_append_cf1ce_16 ?_
  refine z_iload_n C0 hl 0 rfl dJ5_append_cf1ce_19 ?_
  refine z_iadd C0 dJ5_append_cf1ce_20 ?_
  refine z_top (congrArg zI (show M 396 3 + 14 = 28 by omega)) ?_
  refine s_invP (wr := []) (wc := wl g zWn ad M F) (As := [.int (zI 28)]) (rest := []) C0 (zW_r Wd) (sw_grow l g ad M F hRM hc hb) kp_ensure zFa_0 (zrecvW C0 Wd zwn_b (zE_10 zK396) rfl) zk_1020 rfl hl.1 rfl (Nat.le_of_ble_eq_true rfl) (by decide) (by decide) dJ5_append_cf1ce_21 (fun v w1 H locs hp Wr => ?_)
  obtain ⟨rfl, q, rfl⟩ := hp
  have Wd : zW g (va_A (wl g zWn ad M F) s.heap.size) s.heap (402, 404, [BAc g (ad 397) 16 (zRow (M 397))]) (zG2 ad q) (zM2 M) F H locs := r_zW (rW.perm (r_eq Wr rfl) zM2_w.symm) (zM2_R hRM)
  have hT2 := zM2_T hT (by omega)
  refine z_aload_n C0 hl 1 rfl dJ5_append_cf1ce_24 ?_
  refine z_aload_n C0 hl 1 rfl dJ5_append_cf1ce_25 ?_
  have hl : lv_has ls 3 [(2, .int (zI 14)), (0, .ref (zG2 ad q 402)), (1, .ref (g.2.2.2 49))] := hl
  obtain ⟨ad2, had⟩ : ∃ ad2, ad2 = zG2 ad q := ⟨_, rfl⟩
  have ead : ad2 402 = ad 396 := by rw [had]; rfl
  rw [← had] at Wd hl
  rw [← ead]
  clear had
  obtain ⟨x, hx⟩ : ∃ x, x = BAc g (ad 397) 16 (zRow (M 397)) := ⟨_, rfl⟩
  rw [← hx] at Wd
  have hR2 := Wd.2
  generalize zM2 M = M2 at *
  have hc2 := hT2.1
  have hn2 := hT2.2.1
  refine zg_10_3 C0 Wd (zwnG_b : zIn (402, 404, [x]) 402) zK402 zk_332 dJ5_append_cf1ce_26 ?_
  refine z_aload_n C0 hl 2 rfl dJ5_append_cf1ce_29 ?_
  refine z_invPs (As := [.int (zI (M2 402 3)), .ref (g.2.2.2 49)]) (rest := []) C0 Wd (ct_J5_putStringAt_47b60G l g (402, 404, [x]) (zwnG_b : zIn (402, 404, [x]) 402) (zwnG_v : zIn (402, 404, [x]) 403) ad2 M2 F (g.2.2.2 49, g.2.2.2 89, C14) C14_lt (M2 402 3) (Wd.rm _ _) hc2 ⟨by omega, by show M2 402 3 + ((14 : Nat) : Int) ≤ 34; omega⟩) kp_J5_putStringAt_47b60 (hS1 (X := fun z => zStr z.1 z.2.1 z.2.2 _ _ _) hS) (zrecvW C0 Wd (zwnG_b : zIn (402, 404, [x]) 402) (zE_10 zK402) rfl) zk_1091 rfl hl.1 rfl (Nat.le_of_ble_eq_true rfl) (by decide) (by decide) dJ5_append_cf1ce_30 (z_kkv (fun M1 F1 H locs hp Wd => ?_))
  obtain ⟨rfl, rfl⟩ := hp
  refine z_aload_n C0 hl 1 rfl dJ5_append_cf1ce_33 ?_
  refine z_dup C0 rfl dJ5_append_cf1ce_34 ?_
  refine zg_10_3 C0 Wd (zwnG_b : zIn (402, 404, [x]) 402) zK402 zk_332 dJ5_append_cf1ce_35 ?_
  refine z_top (congrArg zI (congrFun (zrow_ne (by decide)) _)) ?_
  refine z_iload_n C0 hl 0 rfl dJ5_append_cf1ce_38 ?_
  refine z_iadd C0 dJ5_append_cf1ce_39 ?_
  refine zp_10_3 C0 Wd (zwnG_b : zIn (402, 404, [x]) 402) zK402 (zR_mk (by omega) (by omega)) zk_332 dJ5_append_cf1ce_40 (fun H locs Wd => ?_)
  refine z_aload_n C0 hl 1 rfl dJ5_append_cf1ce_43 ?_
  refine W.widen (k := 1) (n := 34) (by decide) (by decide) ?_
  exact r_aret C0 (zW_r Wd) hret (Or.inl ⟨_, rfl⟩) hlk ⟨ad2, _, _, x, rfl, (by first | exact ead | rfl), Wd.2, zTx_SG (bs := C14) hT2, rfl⟩ dJ5_append_cf1ce_44
set_option maxHeartbeats 8000000 in
set_option maxRecDepth 100000 in
theorem sw_app4 (l : Launch) (g : zG) (ad : Int → Nat) (M F : zMem) (L : List Int) (hRM : zRM M) (hT : zTx M L) (hL : L.length = 14) (hb : zTB M) : sMt l yJ4_append_15ec4 cJ4_append_15ec4 2 (some (.object "java/lang/StringBuilder")) 5 1 34 g [] [] [.ref (ad 396), .ref (g.2.2.2 49)] (wl g zWn ad M F) (fun v w1 => ∃ (ad2 : Int → Nat) (M3 F3 : zMem) (x : Nat × va_E), v = some (.ref (ad2 402)) ∧ ad2 402 = ad 396 ∧ zRM M3 ∧ zTxG M3 (L ++ C14.map Int32.toInt) ∧ w1 = wl g (402, 404, [x]) ad2 M3 F3) := by
  refine sMt.of "java/lang/StringBuilder" rfl (by decide +kernel) (Nat.le_of_ble_eq_true rfl) (fun {p e s m args below meth c ls} C0 Wr hl hret hlk hin _ => ?_)
  have hl : lv_has ls 2 [(0, .ref (ad 396)), (1, .ref (g.2.2.2 49))] := hl
  refine z_aload_n C0 hl 0 rfl dJ4_append_15ec4_0 ?_
  refine z_aload_n C0 hl 1 rfl dJ4_append_15ec4_1 ?_
  refine s_invSU (wr := []) (wc := wl g zWn ad M F) (As := [.ref (g.2.2.2 49)]) (rest := []) C0 Wr (sw_app5 l g ad M F L hRM hT hL hb) ku_J5_append_cf1ce zFa_0 (zrecvW C0 (r_zW Wr hRM) zwn_b (zE_10 zK396) rfl) zk_1013 rfl hl.1 rfl (Nat.le_of_ble_eq_true rfl) (by decide) (by decide) dJ4_append_15ec4_2 (fun v w1 H locs hp Wr => ?_)
  obtain ⟨ad2, M3, F3, x, rfl, e2, e3, e4, rfl⟩ := hp
  refine z_pop C0 rfl dJ4_append_15ec4_5 ?_
  refine z_aload_n C0 hl 0 rfl dJ4_append_15ec4_6 ?_
  refine W.widen (k := 1) (n := 34) (by decide) (by decide) ?_
  exact r_aret C0 (r_eq Wr rfl) hret (Or.inl ⟨_, rfl⟩) hlk ⟨ad2, M3, F3, x, by rw [e2], e2, e3, e4, rfl⟩ dJ4_append_15ec4_7
section ZLG
variable {g : zG} {A : Nat → Prop} {p : Program} {l : Launch} {e : Env} {R : Room} {s : State} {m : MethodId} {args : Array Value} {below : List Frame} {meth : Method} {c : Code} {H : Heap} {locs : List Loc} {cells slots : Nat} {Q : State → Prop}
variable {cc : ByteArray} {nL : Nat} {own : String} {pc : Nat} {ls : Array Slot} {rest st0 : List Value} {ad ad' : Int → Nat} {M F Mb Fb : zMem} {X0 wr wc : va_W} {S : zSs} {lo : Int} {hi : Nat} {mc ms : Nat} {q : Nat × Nat × List Int32} {L : List Int}
theorem z_invBG {post : Option Value → zMem → zMem → Prop} {y : MethodName} {cc' : ByteArray} {nL' : Nat} {ret' : Option FieldType} {d n idx : Nat} {As : List Value} (C0 : zC g A p s m args c cc nL own) (Wd : zW g A s.heap (lo, hi, X0 ++ wl g zWnG ad' Mb Fb) ad M F H locs) (hRM : zRM Mb) (hM : zMs l y cc' nL' ret' d mc ms g zWnG ad' S (.ref (ad' 402) :: As) Mb Fb post) (kv : zKV y cc' nL' ret' "java/lang/StringBuilder" n) (hS : ∀ q ∈ S, zTR g (wl g (lo, hi, X0) ad M F) q) (hlink : Cond.methodLink own idx y ∈ zT) (hn : As.length = n) (hsz : ls.size = nL) (hst0 : st0 = As.reverse ++ .ref (ad' 402) :: rest) (hst : (rest.map fun v => v.category).sum ≤ 8) (hR : d + 1 ≤ R.frames ∧ 8 + (nL' + 11) + 60 * d ≤ R.locals) (hf : cells + mc ≤ R.cells ∧ slots + ms ≤ R.slots) (hdg : decode cc pc = .ok (.invokevirtual idx, 3))
    (kk : ∀ (v : Option Value) (Mb' Fb' : zMem) (H1 : Heap) (locs1 : List Loc), post v Mb' Fb' → zRM Mb' → zW g A s.heap (lo, hi, X0 ++ wl g zWnG ad' Mb' Fb') ad M F H1 locs1 → W p l e R s m args below meth c H1 locs1 (cells + mc) (slots + ms) Q (F0 m (pc + 3) ls (v.toList ++ rest))) : W p l e R s m args below meth c H locs cells slots Q (F0 m pc ls st0) := by
  have hM0 := Wd.2
  have Wr : rW g A s.heap (wl g (lo, hi, X0) ad M F ++ wl g zWnG ad' Mb Fb) H locs := r_eq (zW_r Wd) wl_app
  refine r_invVs (wr := wl g (lo, hi, X0) ad M F) (S := S) (As := As) (rest := rest) C0 Wr hRM hM kv (fun q hq => zTR_z C0 Wr (hS q hq)) ?_ hlink hn hsz hst0 hst hR hf hdg (fun v M1 F1 H1 locs1 hp hR1 Wr => kk v M1 F1 H1 locs1 hp hR1 (r_zW (r_eq Wr wl_app.symm) hM0))
  exact va_recv (q0 := (wl g (lo, hi, X0) ad M F).length) (ci := 10) (q := (RJ4, TJ4, 4)) C0.2.1 Wr.1 rfl (fs := [.ref (ad' 403), .int (zI (Mb 402 1)), .int (zI (Mb 402 2)), .int (zI (Mb 402 3))]) (by rw [List.getElem?_append_right (Nat.le_refl _), Nat.sub_self]; rfl)
theorem lb_SG (C0 : zC g A p s m args c cc nL own) (Wd : zW g A s.heap (lo, hi, X0 ++ wl g zWnG ad' Mb Fb) ad M F H locs) (hRM : zRM Mb) (hT : zTxG Mb L) (hq : zTR g (wl g (lo, hi, X0) ad M F) q) (hlt : zLt q.2.2) (h16 : L.length + q.2.2.length ≤ 34) {idx : Nat} (hlink : Cond.methodLink own idx yJ4_append_15ec4 ∈ zT) (hsz : ls.size = nL) (hst : (rest.map fun v => v.category).sum ≤ 8) (hR : 5 ≤ R.frames ∧ 281 ≤ R.locals) (hf : cells ≤ R.cells ∧ slots ≤ R.slots) (hdg : decode cc pc = .ok (.invokevirtual idx, 3))
    (kk : ∀ (Mb' Fb' : zMem) (H1 : Heap) (locs1 : List Loc), zRM Mb' → zTxG Mb' (L ++ q.2.2.map Int32.toInt) → zW g A s.heap (lo, hi, X0 ++ wl g zWnG ad' Mb' Fb') ad M F H1 locs1 → W p l e R s m args below meth c H1 locs1 cells slots Q (F0 m (pc + 3) ls (.ref (ad' 402) :: rest))) : W p l e R s m args below meth c H locs cells slots Q (F0 m pc ls (.ref q.1 :: .ref (ad' 402) :: rest)) := by
  have hc := hT.1
  have hn := hT.2.1
  refine z_invBG (S := [q]) (As := [.ref q.1]) (rest := rest) C0 Wd hRM (ct_J4_append_15ec4G l g zWnG zwnG_b zwnG_v ad' Mb Fb q hlt hc ⟨by omega, by omega⟩) kv_J4_append_15ec4 (fun z hz => by rw [List.mem_singleton.mp hz]; exact hq) hlink rfl hsz rfl hst ⟨by have := hR.1; omega, by have := hR.2; omega⟩ hf hdg (fun v M1 F1 H locs hp hR1 Wd => ?_)
  obtain ⟨r, rfl, rfl, rfl, rfl⟩ := hp
  exact kk _ _ H locs hR1 (zTx_SG hT) Wd
theorem lb_IG {x : Int} (C0 : zC g A p s m args c cc nL own) (Wd : zW g A s.heap (lo, hi, X0 ++ wl g zWnG ad' Mb Fb) ad M F H locs) (hRM : zRM Mb) (hT : zTxG Mb L) (hx : 0 ≤ x ∧ x < 10000) (h16 : L.length + (zdgs x).length ≤ 34) {idx : Nat} (hlink : Cond.methodLink own idx yJ4_append_bf812 ∈ zT) (hsz : ls.size = nL) (hst : (rest.map fun v => v.category).sum ≤ 8) (hR : 4 ≤ R.frames ∧ 221 ≤ R.locals) (hf : cells ≤ R.cells ∧ slots ≤ R.slots) (hdg : decode cc pc = .ok (.invokevirtual idx, 3))
    (kk : ∀ (Mb' Fb' : zMem) (H1 : Heap) (locs1 : List Loc), zRM Mb' → zTxG Mb' (L ++ zdgs x) → zW g A s.heap (lo, hi, X0 ++ wl g zWnG ad' Mb' Fb') ad M F H1 locs1 → W p l e R s m args below meth c H1 locs1 cells slots Q (F0 m (pc + 3) ls (.ref (ad' 402) :: rest))) : W p l e R s m args below meth c H locs cells slots Q (F0 m pc ls (.int (zI x) :: .ref (ad' 402) :: rest)) := by
  have hc := hT.1
  have hn := hT.2.1
  refine z_invBG (S := []) (As := [.int (zI x)]) (rest := rest) C0 Wd hRM (zMs_of_t (ct_J4_append_bf812G l g zWnG zwnG_b zwnG_v ad' Mb Fb x (zR_mk (by omega) (by omega)) hc hx ⟨by omega, by have := zdgs_len hx.2; omega⟩)) kv_J4_append_bf812 (fun _ h => nomatch h) hlink rfl hsz rfl hst ⟨by have := hR.1; omega, by have := hR.2; omega⟩ hf hdg (fun v M1 F1 H locs hp hR1 Wd => ?_)
  obtain ⟨r, rfl, rfl, rfl, rfl⟩ := hp
  exact kk _ _ H locs hR1 (zTx_IG hx.2 hT) Wd
theorem lb_TG (C0 : zC g A p s m args c cc nL own) (Wd : zW g A s.heap (lo, hi, X0 ++ wl g zWnG ad' Mb Fb) ad M F H locs) (hRM : zRM Mb) (hT : zTxG Mb L) (h16 : L.length < 34) (hL : ∀ c ∈ L, 0 ≤ c ∧ c < 128) {idx : Nat} (hlink : Cond.methodLink own idx yJ4_toString_0e30d ∈ zT) (hsz : ls.size = nL) (hst : (rest.map fun v => v.category).sum ≤ 8) (hR : 6 ≤ R.frames ∧ 340 ≤ R.locals) (hf : cells + 2 ≤ R.cells ∧ slots + 64 ≤ R.slots) (hdg : decode cc pc = .ok (.invokevirtual idx, 3))
    (kk : ∀ (q : Nat × Nat × List Int32) (w2 : va_W) (H1 : Heap) (locs1 : List Loc), q.2.2 = L.map zI → zTR g w2 q → zW g A s.heap (lo, hi, w2 ++ X0) ad M F H1 locs1 → W p l e R s m args below meth c H1 locs1 (cells + 2) (slots + 64) Q (F0 m (pc + 3) ls (.ref q.1 :: rest))) : W p l e R s m args below meth c H locs cells slots Q (F0 m pc ls (.ref (ad' 402) :: rest)) := by
  have hM0 := Wd.2
  have Wr : rW g A s.heap (wl g (lo, hi, X0) ad M F ++ wl g zWnG ad' Mb Fb) H locs := r_eq (zW_r Wd) wl_app
  have hb : ∀ j : Nat, j < L.length → 0 ≤ Mb 403 (j : Int) ∧ Mb 403 (j : Int) < 128 := fun j hj => hL _ (List.mem_of_getElem? (hT.2.2 j hj))
  refine s_invV (wr := wl g (lo, hi, X0) ad M F) (wc := wl g zWnG ad' Mb Fb) (As := []) (rest := rest) C0 Wr (sw_toStringG l g ad' Mb Fb hRM L.length hT.1 hT.2.1 h16 hb) kw_J4_toString_0e30d zFa_0 ?_ hlink rfl hsz rfl hst ⟨by have := hR.1; omega, by have := hR.2; omega⟩ hf hdg (fun v w1 H locs hp Wr => ?_)
  · exact va_recv (q0 := (wl g (lo, hi, X0) ad M F).length) (ci := 10) (q := (RJ4, TJ4, 4)) C0.2.1 Wr.1 rfl (fs := [.ref (ad' 403), .int (zI (Mb 402 1)), .int (zI (Mb 402 2)), .int (zI (Mb 402 3))]) (by rw [List.getElem?_append_right (Nat.le_refl _), Nat.sub_self]; rfl)
  · obtain ⟨k, v, rfl, rfl⟩ := hp
    refine kk (k, v, L.map zI) [STc k v, BAc g v L.length (zcb (zbl Mb 403 34) L.length)] H locs rfl (Or.inl ⟨List.mem_cons_self, _, by rw [List.length_map]; exact List.mem_cons_of_mem _ List.mem_cons_self, fun j hj => ?_⟩) (zW_perm (r_zW (r_eq (rW.sub Wr ((List.Sublist.refl (wl g (lo, hi, X0) ad M F)).append (List.sublist_append_right (wl g zWnG ad' Mb Fb) [STc k v, BAc g v L.length (zcb (zbl Mb 403 34) L.length)]))) wl_app.symm) hM0) List.perm_append_comm)
    rw [List.length_map] at hj
    show zcb (zbl Mb 403 34) L.length j = _
    unfold zcb
    rw [if_pos hj, zbl_at (by omega), List.getD_eq_getElem?_getD, List.getElem?_map, hT.2.2 j hj]
    rfl
theorem zTB_S {bs : List Int32} (h : zTB M) (hlt : zLt bs) : zTB (zapS bs M) := fun j => by
  have e : zapS bs M 397 j = if M 396 3 ≤ j ∧ j < M 396 3 + (bs.length : Int) then zsx bs (j - M 396 3) else M 397 j := by
    unfold zapS
    rw [zu_ne (by omega)]
    exact congrFun (zrow_same _ _ _) j
  rw [e]
  split
  · exact zsx_b hlt _
  · exact h j
theorem zTB_I {x : Int} (h : zTB M) (hx : 0 ≤ x ∧ x < 10) : zTB (zapI x M) := fun j => by
  unfold zapI
  rw [zu_ne (by omega)]
  unfold zgch
  rw [if_pos hx.2]
  by_cases e : j = M 396 3 + zlen x - 1
  · rw [e, zu_same]; omega
  · rw [zu_ne (by omega)]; exact h j
theorem lb_SB (C0 : zC g A p s m args c cc nL own) (Wd : zW g A s.heap (lo, hi, X0 ++ wl g zWn ad' Mb Fb) ad M F H locs) (hRM : zRM Mb) (hT : zTx Mb L) (hB : zTB Mb) (hq : zTR g (wl g (lo, hi, X0) ad M F) q) (hlt : zLt q.2.2) (h16 : L.length + q.2.2.length ≤ 16) {idx : Nat} (hlink : Cond.methodLink own idx yJ4_append_15ec4 ∈ zT) (hsz : ls.size = nL) (hst : (rest.map fun v => v.category).sum ≤ 8) (hR : 5 ≤ R.frames ∧ 281 ≤ R.locals) (hf : cells ≤ R.cells ∧ slots ≤ R.slots) (hdg : decode cc pc = .ok (.invokevirtual idx, 3))
    (kk : ∀ (Mb' Fb' : zMem) (H1 : Heap) (locs1 : List Loc), zRM Mb' → zTB Mb' → zTx Mb' (L ++ q.2.2.map Int32.toInt) → zW g A s.heap (lo, hi, X0 ++ wl g zWn ad' Mb' Fb') ad M F H1 locs1 → W p l e R s m args below meth c H1 locs1 cells slots Q (F0 m (pc + 3) ls (.ref (ad' 396) :: rest))) : W p l e R s m args below meth c H locs cells slots Q (F0 m pc ls (.ref q.1 :: .ref (ad' 396) :: rest)) := by
  have hc := hT.1
  have hn := hT.2.1
  refine z_invB (S := [q]) (As := [.ref q.1]) (rest := rest) C0 Wd hRM (ct_J4_append_15ec4 l g zWn zwn_b zwn_v ad' Mb Fb q hlt hc ⟨by omega, by omega⟩) kv_J4_append_15ec4 (fun z hz => by rw [List.mem_singleton.mp hz]; exact hq) hlink rfl hsz rfl hst ⟨by have := hR.1; omega, by have := hR.2; omega⟩ hf hdg (fun v M1 F1 H locs hp hR1 Wd => ?_)
  obtain ⟨r, rfl, rfl, rfl, rfl⟩ := hp
  exact kk _ _ H locs hR1 (zTB_S hB hlt) (zTx_S hT) Wd
theorem lb_IB {x : Int} (C0 : zC g A p s m args c cc nL own) (Wd : zW g A s.heap (lo, hi, X0 ++ wl g zWn ad' Mb Fb) ad M F H locs) (hRM : zRM Mb) (hT : zTx Mb L) (hB : zTB Mb) (hx9 : 0 ≤ x ∧ x < 10) (hx : 0 ≤ x ∧ x < 10000) (h16 : L.length + (zdgs x).length ≤ 16) {idx : Nat} (hlink : Cond.methodLink own idx yJ4_append_bf812 ∈ zT) (hsz : ls.size = nL) (hst : (rest.map fun v => v.category).sum ≤ 8) (hR : 4 ≤ R.frames ∧ 221 ≤ R.locals) (hf : cells ≤ R.cells ∧ slots ≤ R.slots) (hdg : decode cc pc = .ok (.invokevirtual idx, 3))
    (kk : ∀ (Mb' Fb' : zMem) (H1 : Heap) (locs1 : List Loc), zRM Mb' → zTB Mb' → zTx Mb' (L ++ zdgs x) → zW g A s.heap (lo, hi, X0 ++ wl g zWn ad' Mb' Fb') ad M F H1 locs1 → W p l e R s m args below meth c H1 locs1 cells slots Q (F0 m (pc + 3) ls (.ref (ad' 396) :: rest))) : W p l e R s m args below meth c H locs cells slots Q (F0 m pc ls (.int (zI x) :: .ref (ad' 396) :: rest)) := by
  have hc := hT.1
  have hn := hT.2.1
  refine z_invB (S := []) (As := [.int (zI x)]) (rest := rest) C0 Wd hRM (zMs_of_t (ct_J4_append_bf812 l g zWn zwn_b zwn_v ad' Mb Fb x (zR_mk (by omega) (by omega)) hc hx ⟨by omega, by have := zdgs_len hx.2; omega⟩)) kv_J4_append_bf812 (fun _ h => nomatch h) hlink rfl hsz rfl hst ⟨by have := hR.1; omega, by have := hR.2; omega⟩ hf hdg (fun v M1 F1 H locs hp hR1 Wd => ?_)
  obtain ⟨r, rfl, rfl, rfl, rfl⟩ := hp
  exact kk _ _ H locs hR1 (zTB_I hB hx9) (zTx_I hx.2 hT) Wd
theorem sb_openB {A : Nat → Prop} {H0 H : Heap} {locs : List Loc} {W0 : va_W} {k v : Nat} (Wd : rW g A H0 (W0 ++ [(k, .inr (10, [.ref v, .int (zI 0), .int (zI 0), .int (zI 0)])), (v, .inl (g.2.2.1 11, 16, .inl (zRow (fun _ => 0))))]) H locs) : ∃ (ad' : Int → Nat) (Mb Fb : zMem), ad' 396 = k ∧ zRM Mb ∧ zTx Mb [] ∧ zTB Mb ∧ rW g A H0 (W0 ++ wl g zWn ad' Mb Fb) H locs :=
  ⟨fun i => if i = 396 then k else v, fun _ _ => 0, fun _ _ => 0, rfl, fun _ _ => zR_0, ⟨rfl, rfl, fun j hj => absurd hj (by simp)⟩, fun _ => ⟨(by show (0 : Int) ≤ 0; decide), (by show (0 : Int) < 128; decide)⟩, Wd⟩
theorem lb_newB (C0 : zC g A p s m args c cc nL "DrumWarrenLaw") (Wd : zW g A s.heap (lo, hi, X0) ad M F H locs) (hsz : ls.size = nL) (hst : (rest.map fun v => v.category).sum ≤ 7) (hR : 3 ≤ R.frames ∧ 160 ≤ R.locals) (hf : cells + 2 ≤ R.cells ∧ slots + 20 ≤ R.slots) (hd1 : decode cc pc = .ok (.new 283, 3)) (hd2 : decode cc (pc + 3) = .ok (.dup, 1)) (hd3 : decode cc (pc + 3 + 1) = .ok (.invokespecial 285, 3))
    (kk : ∀ (ad' : Int → Nat) (Mb Fb : zMem) (H1 : Heap) (locs1 : List Loc), zRM Mb → zTx Mb [] → zTB Mb → zW g A s.heap (lo, hi, X0 ++ wl g zWn ad' Mb Fb) ad M F H1 locs1 → W p l e R s m args below meth c H1 locs1 (cells + 2) (slots + 20) Q (F0 m (pc + 3 + 1 + 3) ls (.ref (ad' 396) :: rest))) : W p l e R s m args below meth c H locs cells slots Q (F0 m pc ls rest) := by
  have hM0 := Wd.2
  refine r_new C0 (zW_r Wd) inZ_10 tyJ4 tyJ4_ok zk_1289 zk_311 zk_37 (ci := 10) rfl (fs := [.null, .int (zI 0), .int (zI 0), .int (zI 0)]) (by intro j hj; have hc : j = 0 ∨ j = 1 ∨ j = 2 ∨ j = 3 := (by omega); rcases hc with rfl | rfl | rfl | rfl <;> rfl) (by have := hf.1; omega) (by have := hf.2; omega) hd1 (fun k H Wd => ?_)
  refine z_dup C0 rfl hd2 ?_
  refine r_init (wr := wl g (lo, hi, X0) ad M F) (wc := [(k, .inr (10, [.null, .int (zI 0), .int (zI 0), .int (zI 0)]))]) (As := []) (rest := .ref k :: rest) C0 (zc_ao C0) Wd (ci_J4_init_da8c8 l g k) ki_J4_init_da8c8 zk_1290 rfl hsz rfl (by simp only [List.map_cons, List.sum_cons]; show 1 + _ ≤ 8; omega) ⟨by have := hR.1; omega, by have := hR.2; omega⟩ ⟨by have := hf.1; omega, by have := hf.2; omega⟩ hd3 (fun v w1 H locs hp Wd => ?_)
  obtain ⟨rfl, q1, rfl⟩ := hp
  obtain ⟨ad', Mb, Fb, rfl, h1, h2, h3, Wd⟩ := sb_openB Wd
  exact kk ad' Mb Fb H locs h1 h2 h3 (r_zW (r_eq Wd wl_app.symm) hM0)
set_option maxRecDepth 100000 in
theorem lb_G (C0 : zC g A p s m args c cc nL own) (Wd : zW g A s.heap (lo, hi, X0 ++ wl g zWn ad' Mb Fb) ad M F H locs) (hRM : zRM Mb) (hT : zTx Mb L) (hB : zTB Mb) (hL : L.length = 14) {idx : Nat} (hlink : Cond.methodLink own idx yJ4_append_15ec4 ∈ zT) (hsz : ls.size = nL) (hst : (rest.map fun v => v.category).sum ≤ 8) (hR : 6 ≤ R.frames ∧ 340 ≤ R.locals) (hf : cells + 1 ≤ R.cells ∧ slots + 34 ≤ R.slots) (hdg : decode cc pc = .ok (.invokevirtual idx, 3))
    (kk : ∀ (ad2 : Int → Nat) (Mb' Fb' : zMem) (H1 : Heap) (locs1 : List Loc), zRM Mb' → zTxG Mb' (L ++ C14.map Int32.toInt) → zW g A s.heap (lo, hi, X0 ++ wl g zWnG ad2 Mb' Fb') ad M F H1 locs1 → W p l e R s m args below meth c H1 locs1 (cells + 1) (slots + 34) Q (F0 m (pc + 3) ls (.ref (ad2 402) :: rest))) : W p l e R s m args below meth c H locs cells slots Q (F0 m pc ls (.ref (g.2.2.2 49) :: .ref (ad' 396) :: rest)) := by
  have hM0 := Wd.2
  have Wr : rW g A s.heap (wl g (lo, hi, X0) ad M F ++ wl g zWn ad' Mb Fb) H locs := r_eq (zW_r Wd) wl_app
  refine s_invV (wr := wl g (lo, hi, X0) ad M F) (wc := wl g zWn ad' Mb Fb) (As := [.ref (g.2.2.2 49)]) (rest := rest) C0 Wr (sw_app4 l g ad' Mb Fb L hRM hT hL hB) kv_J4_append_15ec4 zFa_0 ?_ hlink rfl hsz rfl hst ⟨by have := hR.1; omega, by have := hR.2; omega⟩ hf hdg (fun v w1 H locs hp Wr => ?_)
  · exact va_recv (q0 := (wl g (lo, hi, X0) ad M F).length) (ci := 10) (q := (RJ4, TJ4, 4)) C0.2.1 Wr.1 rfl (fs := [.ref (ad' 397), .int (zI (Mb 396 1)), .int (zI (Mb 396 2)), .int (zI (Mb 396 3))]) (by rw [List.getElem?_append_right (Nat.le_refl _), Nat.sub_self]; rfl)
  · obtain ⟨ad2, M3, F3, x, rfl, e2, e3, e4, rfl⟩ := hp
    refine kk ad2 M3 F3 H locs e3 e4 (r_zW (r_eq (rW.sub Wr ((List.Sublist.refl (wl g (lo, hi, X0) ad M F)).append ?_)) wl_app.symm) hM0)
    have e9 : wl g (402, 404, [x]) ad2 M3 F3 = wl g zWnG ad2 M3 F3 ++ [x] := wl_app (X := [])
    rw [e9]
    exact List.sublist_append_left _ _
end ZLG
