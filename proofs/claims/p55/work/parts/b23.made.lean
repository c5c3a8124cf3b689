/-! Strings made: the constructors, toString, substring -/
theorem inZ_S : ∀ w ∈ u_ws RJ0 TJ0 4, w ∈ zT := by decide +kernel
/-- the letters that a builder of 16 holds, as a text -/
def zbl (M : zMem) (v n : Nat) : List Int32 := (List.range n).map (fun (j : Nat) => zI (M (v : Int) (j : Int)))
theorem zbl_len {M : zMem} {v n : Nat} : (zbl M v n).length = n := by simp [zbl]
theorem zbl_at {M : zMem} {v n j : Nat} (h : j < n) : (zbl M v n).getD j 0 = zI (M (v : Int) (j : Int)) := by
  rw [List.getD_eq_getElem?_getD]
  simp [zbl, h]
/-- a String's cell and its bytes' -/
abbrev STc (k v : Nat) : Nat × va_E := (k, .inr (9, [.ref v, .int 0, .int (zI 0), .int (zI 0)]))
abbrev BAc (g : zG) (v n : Nat) (f : Nat → Int32) : Nat × va_E := (v, .inl (g.2.2.1 11, n, .inl f))
theorem kw_J0_init_031fb : zKI yJ0_init_031fb cJ0_init_031fb 3 2 := ⟨zk_1320, zk_1319, zk_38, by decide, by decide, rfl, by decide +kernel⟩
set_option maxHeartbeats 4000000 in
set_option maxRecDepth 100000 in
theorem sw_init2 (l : Launch) (g : zG) (k q : Nat) (n : Nat) (f : Nat → Int32) : sMt l yJ0_init_031fb cJ0_init_031fb 3 none 1 0 0 g [] [] [.ref k, .ref q, .int (zI 0)] [(k, .inr (9, [.null, .int 0, .int (zI 0), .int (zI 0)])), BAc g q n f] (fun v w1 => v = none ∧ w1 = [STc k q, BAc g q n f]) := by
  refine sMt.of "java/lang/String" rfl (by decide +kernel) (Nat.le_of_ble_eq_true rfl) (fun {p e s m args below meth c ls} C0 Wd hl hret hlk hin hF => ?_)
  have hl : lv_has ls 3 [(0, .ref k), (1, .ref q), (2, .int (zI 0))] := hl
  refine z_aload_n C0 hl 0 rfl dJ0_init_031fb_0 ?_
  refine r_obj C0 Wd zk_1161 hl.1 (by decide) (by decide) dJ0_init_031fb_1 ?_
  refine z_aload_n C0 hl 0 rfl dJ0_init_031fb_4 ?_
  refine z_aload_n C0 hl 1 rfl dJ0_init_031fb_5 ?_
  refine r_putF C0 Wd inZ_S tyJ0 tyJ0_ok nmJ0 (q0 := 0) rfl rfl (k := 0) (by decide) zk_1206 (fun _ h => h) rfl (hin rfl) rfl rfl rfl (Nat.le_of_ble_eq_true rfl) dJ0_init_031fb_6 (fun H locs Wd => ?_)
  refine z_aload_n C0 hl 0 rfl dJ0_init_031fb_9 ?_
  refine z_iload_n C0 hl 2 rfl dJ0_init_031fb_10 ?_
  refine r_putF C0 Wd inZ_S tyJ0 tyJ0_ok nmJ0 (q0 := 0) rfl rfl (k := 1) (by decide) zk_1207 (fun _ h => h) rfl (hin rfl) rfl rfl rfl (Nat.le_of_ble_eq_true rfl) dJ0_init_031fb_11 (fun H locs Wd => ?_)
  exact r_vret C0 Wd hret hlk ⟨rfl, rfl⟩ dJ0_init_031fb_14
section ZOV
variable {g : zG} {A : Nat → Prop} {p : Program} {l : Launch} {e : Env} {R : Room} {s : State} {m : MethodId} {args : Array Value} {below : List Frame} {meth : Method} {c : Code} {H : Heap} {locs : List Loc} {cells slots : Nat} {Q : State → Prop}
variable {cc : ByteArray} {nL : Nat} {own : String} {pc : Nat} {N : zNs} {ls : Array Slot} {rest st0 : List Value} {ad : Int → Nat} {M F : zMem} {wr : va_W} {S : zSs}
variable {post : Option Value → zMem → zMem → Prop} {mc ms : Nat}
/-- a method that overrides the one named: x at the reference, y what runs -/
def zKO (x y : MethodName) (cc : ByteArray) (nL : Nat) (ret : Option FieldType) (C owner : String) (n : Nat) (b0 : ByteArray) (m0 : Nat) (r0 : Option FieldType) : Prop :=
  Cond.code y cc nL ret ∈ zT ∧ Cond.instanceMethod y ∈ zT ∧ Cond.selects C x y ∈ zT ∧ Cond.initialized y.cls ∈ zT ∧ Cond.sameMethod x.cls owner x.name x.desc ∈ zT ∧ Cond.instanceMethod ⟨owner, x.name, x.desc⟩ ∈ zT ∧ Cond.code ⟨owner, x.name, x.desc⟩ b0 m0 r0 ∈ zT ∧ owner ≠ "java/lang/invoke/MethodHandle" ∧ owner ≠ "java/lang/invoke/VarHandle" ∧ (parseMethodDescriptor x.desc).map (fun d => d.parameters.length) = some n
theorem r_invOs {x y : MethodName} {b : Nat} {C owner : String} {cc' b0 : ByteArray} {nL' m0 : Nat} {ret' r0 : Option FieldType} {d n idx : Nat} {As : List Value} (C0 : zC g A p s m args c cc nL own) (Wd : rW g A s.heap (wr ++ wl g N ad M F) H locs) (hRM : zRM M) (hM : zMs l y cc' nL' ret' d mc ms g N ad S (.ref b :: As) M F post) (kv : zKO x y cc' nL' ret' C owner n b0 m0 r0) (hS : ∀ q ∈ S, zStr q.1 q.2.1 q.2.2 (zA N ad H.size) s H) (hrecv : ∃ cell : Cell, H[b]? = some cell ∧ cell.vm.isStatics = false ∧ s.vm.findClass C = some cell.cls) (hlink : Cond.methodLink own idx x ∈ zT) (hn : As.length = n) (hsz : ls.size = nL) (hst0 : st0 = As.reverse ++ .ref b :: rest) (hst : (rest.map fun v => v.category).sum ≤ 8) (hR : d + 1 ≤ R.frames ∧ 8 + (nL' + 11) + 60 * d ≤ R.locals) (hf : cells + mc ≤ R.cells ∧ slots + ms ≤ R.slots) (hdg : decode cc pc = .ok (.invokevirtual idx, 3))
    (kk : ∀ (v : Option Value) (M' F' : zMem) (H1 : Heap) (locs1 : List Loc), post v M' F' → zRM M' → rW g A s.heap (wr ++ wl g N ad M' F') H1 locs1 → W p l e R s m args below meth c H1 locs1 (cells + mc) (slots + ms) Q (F0 m (pc + 3) ls (v.toList ++ rest))) : W p l e R s m args below meth c H locs cells slots Q (F0 m pc ls st0) := by
  obtain ⟨k1, k2, k3, k4, k5, k6, k7, k8, k9, k10⟩ := kv
  have hG : GoodIn zT (va_wsO own idx C owner x y (Cond.code y cc' nL' ret' :: zT)) := by
    intro w hw
    unfold va_wsO at hw
    rcases List.mem_append.mp hw with h | h
    · simp only [List.mem_cons, List.not_mem_nil, or_false] at h
      rcases h with rfl | rfl | rfl | rfl | rfl | rfl
      · exact zT_good hlink
      · exact zT_good k5
      · exact zT_good k6
      · exact zT_good k3
      · exact zT_good k2
      · exact zT_good k4
    · exact zGoodT k1 w h
  exact r_callZ (va_runU (As := As) (rest := rest) C0.1 (hM H.size) (va_cwO n C0.1.2.2.2.2 hG rfl rfl rfl k7 ⟨k8, k9, k10⟩ hR) ⟨zPreS_blind, hrecv, r_zpre C0 Wd hRM hS _⟩ rfl hn hsz hst0 (lv_room hst) hdg hf) C0 Wd kk
end ZOV
theorem ko_length : zKO yJ5_length_8abf5 yJ4_length_8abf5 cJ4_length_8abf5 1 (some .int) "java/lang/StringBuilder" "java/lang/AbstractStringBuilder" 0 cJ5_length_8abf5 1 (some .int) := ⟨by decide +kernel, by decide +kernel, by decide +kernel, by decide +kernel, by decide +kernel, by decide +kernel, by decide +kernel, by decide, by decide, by decide +kernel⟩
theorem kw_J5_getValue_6d5f1 : zKV yJ5_getValue_6d5f1 cJ5_getValue_6d5f1 1 (some (.array .byte)) "java/lang/StringBuilder" 0 := ⟨zk_1166, zk_1163, zk_1165, zk_36, by decide, by decide, by decide +kernel⟩
set_option maxHeartbeats 4000000 in
set_option maxRecDepth 100000 in
theorem ct_J5_getValue (l : Launch) (g : zG) (N : zNs) (zb6 : zIn N 396) (ad : Int → Nat) (M F : zMem) : zMt l yJ5_getValue_6d5f1 cJ5_getValue_6d5f1 1 (some (.array .byte)) 0 0 0 g N ad [.ref (ad 396)] M F (zPr ad (fun r M' F' => 397 = r ∧ M = M' ∧ F = F')) := by
  refine zMt.of "java/lang/AbstractStringBuilder" rfl (by decide +kernel) (Nat.le_of_ble_eq_true rfl) (fun {p e s m args below meth c ls} C0 Wd hl hret hlk hin => ?_)
  have hl : lv_has ls 1 [(0, .ref (ad 396))] := hl
  refine z_aload_n C0 hl 0 rfl dJ5_getValue_6d5f1_0 ?_
  refine zg_10_0 C0 Wd zb6 zK396 zk_328 dJ5_getValue_6d5f1_1 ?_
  refine z_rf (show (396 + 1) = 397 by decide) ?_
  exact W.aret C0.1.1 C0.1.2.1 hret (Or.inr ⟨_, rfl⟩) (Or.inr ⟨_, rfl⟩) (z_ends C0 Wd ⟨397, rfl, rfl, rfl, rfl⟩) Wd.1.2.2.2.2 dJ5_getValue_6d5f1_4 hlk
abbrev zWn : zNs := (396, 398, [])
theorem zwn_b : zIn zWn 396 := ⟨by decide, by decide⟩
theorem zwn_v : zIn zWn 397 := ⟨by decide, by decide⟩
theorem wl_win {g : zG} {ad : Int → Nat} {M F : zMem} : wl g zWn ad M F = [(ad 396, .inr (10, [.ref (ad 397), .int (zI (M 396 1)), .int (zI (M 396 2)), .int (zI (M 396 3))])), BAc g (ad 397) 16 (zRow (M 397))] := rfl
theorem kw_J0_init_db425 : zKI yJ0_init_db425 cJ0_init_db425 5 2 := ⟨zk_1160, zk_1159, zk_38, by decide, by decide, rfl, by decide +kernel⟩
set_option maxHeartbeats 4000000 in
set_option maxRecDepth 100000 in
theorem sw_init3 (l : Launch) (g : zG) (ad : Int → Nat) (M F : zMem) (hRM : zRM M) (k n : Nat) (hc : M 396 1 = 0) (hn : M 396 3 = n) (hlt : n < 16) (hb : ∀ j : Nat, j < n → 0 ≤ M 397 (j : Int) ∧ M 397 (j : Int) < 128) : sMt l yJ0_init_db425 cJ0_init_db425 5 none 3 1 60 g [] [] [.ref k, .ref (ad 396), .null] ([(k, .inr (9, [.null, .int 0, .int (zI 0), .int (zI 0)]))] ++ wl g zWn ad M F) (fun v w1 => v = none ∧ ∃ q, w1 = [STc k q] ++ wl g zWn ad M F ++ [BAc g q n (zcb (zbl M 397 16) n)]) := by
  refine sMt.of "java/lang/String" rfl (by decide +kernel) (Nat.le_of_ble_eq_true rfl) (fun {p e s m args below meth c ls} C0 Wd hl hret hlk hin hF => ?_)
  have hl : lv_has ls 5 [(0, .ref k), (1, .ref (ad 396)), (2, .null)] := hl
  have hrv : ∀ {H : Heap} {locs : List Loc} {x : Nat × va_E}, rW g (va_A ([(k, .inr (9, [.null, .int 0, .int (zI 0), .int (zI 0)]))] ++ wl g zWn ad M F) s.heap.size) s.heap ([x] ++ wl g zWn ad M F) H locs → ∃ cell : Cell, H[ad 396]? = some cell ∧ cell.vm.isStatics = false ∧ s.vm.findClass "java/lang/StringBuilder" = some cell.cls := fun Wd => va_recv (q0 := 1) (ci := 10) (q := (RJ4, TJ4, 4)) C0.2.1 Wd.1 rfl (fs := [.ref (ad 397), .int (zI (M 396 1)), .int (zI (M 396 2)), .int (zI (M 396 3))]) rfl
  refine z_aload_n C0 hl 0 rfl dJ0_init_db425_0 ?_
  refine r_obj C0 Wd zk_1161 hl.1 (by decide) (by decide) dJ0_init_db425_1 ?_
  refine z_aload_n C0 hl 1 rfl dJ0_init_db425_4 ?_
  refine r_invVs (wr := [(k, .inr (9, [.null, .int 0, .int (zI 0), .int (zI 0)]))]) (S := []) (As := []) (rest := []) C0 Wd hRM (zMs_of_t (ct_J5_getValue l g zWn zwn_b ad M F)) kw_J5_getValue_6d5f1 (fun _ h => nomatch h) (hrv Wd) zk_1162 rfl hl.1 rfl (Nat.le_of_ble_eq_true rfl) (by decide) (by decide) dJ0_init_db425_5 (fun v M1 F1 H locs hp hRM1 Wd => ?_)
  obtain ⟨r, rfl, rfl, rfl, rfl⟩ := hp
  refine z_astore_n C0 hl [(3, .ref (ad 397)), (0, .ref k), (1, .ref (ad 396)), (2, .null)] (by decide) rfl dJ0_init_db425_8 (fun ls hl => ?_)
  refine z_aload_n C0 hl 2 rfl dJ0_init_db425_9 ?_
  refine r_invOs (wr := [(k, .inr (9, [.null, .int 0, .int (zI 0), .int (zI 0)]))]) (S := []) (As := []) (rest := []) C0 Wd hRM (zMs_of_t (ct_J4_length_8abf5 l g zWn zwn_b zwn_v ad M F)) ko_length (fun _ h => nomatch h) (hrv Wd) zk_1167 rfl hl.1 rfl (Nat.le_of_ble_eq_true rfl) (by decide) (by decide) dJ0_init_db425_10 (fun v M1 F1 H locs hp hRM1 Wd => ?_)
  obtain ⟨r, rfl, hr, rfl, rfl, rfl⟩ := hp
  refine z_top (congrArg zI hn) ?_
  refine z_istore C0 hl [(4, .int (zI (n : Int))), (3, .ref (ad 397)), (0, .ref k), (1, .ref (ad 396)), (2, .null)] (by decide) rfl dJ0_init_db425_13 (fun ls hl => ?_)
  refine z_aload_n C0 hl 3 rfl dJ0_init_db425_15 ?_
  refine r_invVs (wr := [(k, .inr (9, [.null, .int 0, .int (zI 0), .int (zI 0)]))]) (S := []) (As := []) (rest := []) C0 Wd hRM (zMs_of_t (ct_J5_isLatin1_aae02 l g zWn zwn_b zwn_v ad M F hc)) ks_isLatin1 (fun _ h => nomatch h) (hrv Wd) zk_1175 rfl hl.1 rfl (Nat.le_of_ble_eq_true rfl) (by decide) (by decide) dJ0_init_db425_16 (fun v M1 F1 H locs hp hRM1 Wd => ?_)
  obtain ⟨r, rfl, hr, rfl, rfl, rfl⟩ := hp
  refine z_if_eq C0 (tgt := 41) (zR_mk (by decide) (by decide)) dJ0_init_db425_19 (by decide) (fun h => absurd h (by decide)) (fun _ => ?_)
  refine z_aload_n C0 hl 2 rfl dJ0_init_db425_22 ?_
  refine z_iconst C0 dJ0_init_db425_23 ?_
  refine r_putF C0 Wd inZ_S tyJ0 tyJ0_ok nmJ0 (q0 := 0) rfl rfl (k := 1) (by decide) zk_1207 (fun _ h => h) rfl (hin rfl) rfl rfl rfl (Nat.le_of_ble_eq_true rfl) dJ0_init_db425_24 (fun H locs Wd => ?_)
  replace Wd := r_eq Wd (w1 := [(k, .inr (9, [.null, .int 0, .int (zI 0), .int (zI 0)]))] ++ wl g zWn ad M F) rfl
  refine z_aload_n C0 hl 2 rfl dJ0_init_db425_27 ?_
  refine z_aload_n C0 hl 1 rfl dJ0_init_db425_28 ?_
  refine z_iconst C0 dJ0_init_db425_29 ?_
  refine z_iload C0 hl 0 rfl dJ0_init_db425_30 ?_
  have hmem : (ad 397, Sum.inl (g.2.2.1 11, (zbl M 397 16).length, Sum.inl (zRow (M 397)))) ∈ ([(k, .inr (9, [.null, .int 0, .int (zI 0), .int (zI 0)]))] ++ wl g zWn ad M F : va_W) := by
    rw [zbl_len, wl_win]
    exact List.mem_cons_of_mem _ (List.mem_cons_of_mem _ List.mem_cons_self)
  have hX : zFa [] [(ad 397, zbl M 397 16)] (va_A [] H.size) s H := ⟨fun _ h => (nomatch h), fun t ht => by
    rw [List.mem_singleton.mp ht]
    exact va_T_of C0 Wd.1 hmem (fun j hj => by rw [zbl_len] at hj; exact (zbl_at hj).symm) (fun h => by
      rcases h with ⟨k9, e9, h⟩ | h
      · exact absurd h (by simp)
      · have := Wd.lt hmem
        exact absurd h (by simp only at this; omega))⟩
  refine s_invS (wr := _) (wc := []) (As := [.ref (ad 397), .int (zI 0), .int (zI (n : Int))]) (rest := [.ref k]) C0 (r_eq Wd (List.append_nil _).symm) (sw_copyOfRange l g (ad 397) (zbl M 397 16) n (by rw [zbl_len]; decide) (fun j hj => by
    have h9 := hb j hj
    have e9 : zsx (zbl M 397 16) (j : Int) = M 397 (j : Int) := by
      unfold zsx
      rw [Int.toNat_natCast, zbl_at (by omega), zI_tr (hRM _ _)]
      rfl
    rw [e9]
    exact h9) (by rw [zbl_len]; exact hlt)) kw_J7_copyOfRange_39247 hX zk_1176 rfl hl.1 rfl (Nat.le_of_ble_eq_true rfl) (by decide) (by decide) dJ0_init_db425_32 (fun v w1 H locs hp Wd => ?_)
  obtain ⟨q, rfl, rfl⟩ := hp
  refine r_putF C0 Wd inZ_S tyJ0 tyJ0_ok nmJ0 (q0 := 0) rfl rfl (k := 0) (by decide) zk_1206 (fun _ h => h) rfl (hin rfl) rfl rfl rfl (Nat.le_of_ble_eq_true rfl) dJ0_init_db425_35 (fun H locs Wd => ?_)
  refine z_goto C0 (tgt := 97) dJ0_init_db425_38 (by decide) ?_
  exact r_vret C0 Wd hret hlk ⟨rfl, q, rfl⟩ dJ0_init_db425_97
theorem kw_J0_init_81219 : zKI yJ0_init_81219 cJ0_init_81219 2 1 := ⟨zk_1157, zk_1156, zk_38, by decide, by decide, rfl, by decide +kernel⟩
set_option maxHeartbeats 4000000 in
set_option maxRecDepth 100000 in
theorem sw_init1 (l : Launch) (g : zG) (ad : Int → Nat) (M F : zMem) (hRM : zRM M) (k n : Nat) (hc : M 396 1 = 0) (hn : M 396 3 = n) (hlt : n < 16) (hb : ∀ j : Nat, j < n → 0 ≤ M 397 (j : Int) ∧ M 397 (j : Int) < 128) : sMt l yJ0_init_81219 cJ0_init_81219 2 none 4 1 60 g [] [] [.ref k, .ref (ad 396)] ([(k, .inr (9, [.null, .int 0, .int (zI 0), .int (zI 0)]))] ++ wl g zWn ad M F) (fun v w1 => v = none ∧ ∃ q, w1 = [STc k q] ++ wl g zWn ad M F ++ [BAc g q n (zcb (zbl M 397 16) n)]) := by
  refine sMt.of "java/lang/String" rfl (by decide +kernel) (Nat.le_of_ble_eq_true rfl) (fun {p e s m args below meth c ls} C0 Wd hl hret hlk hin hF => ?_)
  have hl : lv_has ls 2 [(0, .ref k), (1, .ref (ad 396))] := hl
  refine z_aload_n C0 hl 0 rfl dJ0_init_81219_0 ?_
  refine z_aload_n C0 hl 1 rfl dJ0_init_81219_1 ?_
  refine lv_null C0.1.1 C0.1.2.1 dJ0_init_81219_2 ?_
  refine s_init (wr := []) (As := [.ref (ad 396), .null]) (rest := []) C0 Wd (sw_init3 l g ad M F hRM k n hc hn hlt hb) kw_J0_init_db425 zFa_0 zk_1158 rfl hl.1 rfl (Nat.le_of_ble_eq_true rfl) (by decide) (by decide) dJ0_init_81219_3 (fun v w1 H locs hp Wd => ?_)
  obtain ⟨rfl, q, rfl⟩ := hp
  exact r_vret C0 Wd hret hlk ⟨rfl, q, rfl⟩ dJ0_init_81219_6
theorem kw_J4_toString_0e30d : zKV yJ4_toString_0e30d cJ4_toString_0e30d 1 (some (.object "java/lang/String")) "java/lang/StringBuilder" 0 := ⟨zk_1153, zk_1151, zk_1152, zk_37, by decide, by decide, by decide +kernel⟩
set_option maxHeartbeats 4000000 in
set_option maxRecDepth 100000 in
theorem sw_toString (l : Launch) (g : zG) (ad : Int → Nat) (M F : zMem) (hRM : zRM M) (n : Nat) (hc : M 396 1 = 0) (hn : M 396 3 = n) (hlt : n < 16) (hb : ∀ j : Nat, j < n → 0 ≤ M 397 (j : Int) ∧ M 397 (j : Int) < 128) : sMt l yJ4_toString_0e30d cJ4_toString_0e30d 1 (some (.object "java/lang/String")) 5 2 64 g [] [] [.ref (ad 396)] (wl g zWn ad M F) (fun v w1 => ∃ k q, v = some (.ref k) ∧ w1 = wl g zWn ad M F ++ [STc k q, BAc g q n (zcb (zbl M 397 16) n)]) := by
  refine sMt.of "java/lang/StringBuilder" rfl (by decide +kernel) (Nat.le_of_ble_eq_true rfl) (fun {p e s m args below meth c ls} C0 Wd hl hret hlk hin hF => ?_)
  have hl : lv_has ls 1 [(0, .ref (ad 396))] := hl
  refine r_new C0 Wd inZ_S tyJ0 tyJ0_ok zk_1154 zk_576 zk_38 (ci := 9) rfl (fs := [.null, .int 0, .int (zI 0), .int (zI 0)]) (by intro j hj; have hc : j = 0 ∨ j = 1 ∨ j = 2 ∨ j = 3 := (by omega); rcases hc with rfl | rfl | rfl | rfl <;> rfl) (by decide) (by decide) dJ4_toString_0e30d_0 (fun k H Wd => ?_)
  refine z_dup C0 rfl dJ4_toString_0e30d_3 ?_
  refine z_aload_n C0 hl 0 rfl dJ4_toString_0e30d_4 ?_
  refine s_init (wr := []) (As := [.ref (ad 396)]) (rest := [.ref k]) C0 (rW.perm Wd (List.perm_append_comm (l₁ := [(k, Sum.inr (9, [Value.null, .int 0, .int (zI 0), .int (zI 0)]))]) (l₂ := wl g zWn ad M F))) (sw_init1 l g ad M F hRM k n hc hn hlt hb) kw_J0_init_81219 zFa_0 zk_1155 rfl hl.1 rfl (Nat.le_of_ble_eq_true rfl) (by decide) (by decide) dJ4_toString_0e30d_5 (fun v w1 H locs hp Wd => ?_)
  obtain ⟨rfl, q, rfl⟩ := hp
  have Wd := rW.perm Wd (ws' := wl g zWn ad M F ++ [STc k q, BAc g q n (zcb (zbl M 397 16) n)]) (by
    rw [wl_win]
    exact List.perm_middle (l₁ := [_, _]) (l₂ := [_]))
  refine W.widen (k := 2) (n := 64) (by decide) (by decide) ?_
  exact r_aret C0 Wd hret (Or.inl ⟨_, rfl⟩) hlk ⟨k, q, rfl, rfl⟩ dJ4_toString_0e30d_8
