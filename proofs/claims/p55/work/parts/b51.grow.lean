/-! a builder grows from 16 to 34 -/
section ZGR
variable {g : zG} {A : Nat → Prop} {p : Program} {l : Launch} {e : Env} {R : Room} {s : State} {m : MethodId} {args : Array Value} {below : List Frame} {meth : Method} {c : Code} {H : Heap} {locs : List Loc} {cells slots : Nat} {Q : State → Prop}
variable {cc : ByteArray} {nL : Nat} {own : String} {pc : Nat} {N : zNs} {ls : Array Slot} {rest st0 : List Value} {ad : Int → Nat} {M F : zMem} {ws wc wr : va_W} {S : zSs} {T : List (Nat × List Int32)}
variable {mc ms : Nat}
theorem r_invPs {b : Nat} {C : String} {post : Option Value → zMem → zMem → Prop} {y z : MethodName} {cc' : ByteArray} {nL' : Nat} {ret' : Option FieldType} {d n idx : Nat} {As : List Value} (C0 : zC g A p s m args c cc nL own) (Wd : rW g A s.heap (wr ++ wl g N ad M F) H locs) (hRM : zRM M) (hM : zMs l y cc' nL' ret' d mc ms g N ad S (.ref b :: As) M F post) (kv : zKP y z cc' nL' ret' C n) (hS : ∀ q ∈ S, zStr q.1 q.2.1 q.2.2 (zA N ad H.size) s H) (hrecv : ∃ cell : Cell, H[b]? = some cell ∧ cell.vm.isStatics = false ∧ s.vm.findClass C = some cell.cls) (hlink : Cond.methodLink own idx y ∈ zT) (hn : As.length = n) (hsz : ls.size = nL) (hst0 : st0 = As.reverse ++ .ref b :: rest) (hst : (rest.map fun v => v.category).sum ≤ 8) (hR : d + 1 ≤ R.frames ∧ 8 + (nL' + 11) + 60 * d ≤ R.locals) (hf : cells + mc ≤ R.cells ∧ slots + ms ≤ R.slots) (hdg : decode cc pc = .ok (.invokevirtual idx, 3))
    (kk : ∀ (v : Option Value) (M' F' : zMem) (H1 : Heap) (locs1 : List Loc), post v M' F' → zRM M' → rW g A s.heap (wr ++ wl g N ad M' F') H1 locs1 → W p l e R s m args below meth c H1 locs1 (cells + mc) (slots + ms) Q (F0 m (pc + 3) ls (v.toList ++ rest))) : W p l e R s m args below meth c H locs cells slots Q (F0 m pc ls st0) := by
  obtain ⟨k1, k2, k3, k4, k5, k6, k7⟩ := kv
  exact r_callZ (va_runV (As := As) (rest := rest) C0.1 (hM H.size) ⟨z_callB C0 k1 k4 ⟨k5, k6, k7⟩ hlink hR, C0.1.2.2.2.2 _ k2, z_selP (C0.1.2.2.2.2 _ k3.1) k3.2.1 (va_Nw.use rfl (zc_pr C0 k3.2.2)) (C0.1.2.2.2.2 _ k2) ⟨k5, k6⟩⟩ ⟨zPreS_blind, hrecv, r_zpre C0 Wd hRM hS _⟩ rfl hn hsz hst0 (lv_room hst) hdg hf) C0 Wd kk
theorem s_invSU {post : Option Value → va_W → Prop} {b k : Nat} {C : String} {y z : MethodName} {cc' : ByteArray} {nL' : Nat} {ret' : Option FieldType} {d n idx : Nat} {As : List Value} (C0 : zC g A p s m args c cc nL own) (Wd : rW g A s.heap (wr ++ wc) H locs) (hM : sMt l y cc' nL' ret' d mc ms g S T (.ref b :: As) wc post) (kv : zKU9 y z cc' nL' ret' own C k n) (hF : zFa S T (va_A wc H.size) s H) (hrecv : ∃ cell : Cell, H[b]? = some cell ∧ cell.vm.isStatics = false ∧ s.vm.findClass C = some cell.cls) (hlink : Cond.methodLink own idx y ∈ zT) (hn : As.length = n) (hsz : ls.size = nL) (hst0 : st0 = As.reverse ++ .ref b :: rest) (hst : (rest.map fun v => v.category).sum ≤ 8) (hR : d + 1 ≤ R.frames ∧ 8 + (nL' + 11) + 60 * d ≤ R.locals) (hf : cells + mc ≤ R.cells ∧ slots + ms ≤ R.slots) (hdg : decode cc pc = .ok (.invokespecial idx, 3)) (kk : ∀ (v : Option Value) (w1 : va_W) (H1 : Heap) (locs1 : List Loc), post v w1 → rW g A s.heap (wr ++ w1) H1 locs1 → W p l e R s m args below meth c H1 locs1 (cells + mc) (slots + ms) Q (F0 m (pc + 3) ls (v.toList ++ rest))) : W p l e R s m args below meth c H locs cells slots Q (F0 m pc ls st0) := by
  obtain ⟨k1, k2, k3, k4, k5, k6, k7, k8⟩ := kv
  have hins := C0.1.2.2.2.2 _ k3.2.1
  obtain ⟨c1, kX, hc1, hk, hord, -⟩ := Cond.instantiable_spec (show (Cond.instantiable C k).holds args s none s [] = true from hins)
  refine r_call (va_runSU (As := As) (rest := rest) (cC := c1) ⟨hc1, kX, hk, hord⟩ C0.1 (hM H.size) ⟨⟨rfl, rfl, hR.1, hR.2, pay_in C0.1.2.2.2.2 (zGoodT k1), List.mem_cons_self⟩, C0.1.2.2.2.2 _ hlink, z_sameM (C0.1.2.2.2.2 _ k3.2.2.1) k3.2.2.2 (C0.1.2.2.2.2 _ k2) ⟨k5, k6⟩, C0.1.2.2.2.2 _ k3.1, C0.1.2.2.2.2 _ k2, C0.1.2.2.2.2 _ k4, C0.1.2.2.2.2 _ k1, k7, fun sig h => ?_⟩ ⟨sPre_blind, hrecv, sPre_of C0 Wd hF _⟩ rfl hn hsz hst0 (lv_room hst) hdg hf) C0 Wd kk
  rw [h] at k8
  exact (Option.some.inj k8).symm
end ZGR
theorem kw_J8_newLength : zKS yJ8_newLength_cabcc cJ8_newLength_cabcc 4 (some .int) 3 := ⟨zk_1030, zk_1029, zk_56, by decide, by decide, by decide +kernel⟩
theorem kp_newCapacity : zKP yJ5_newCapacity_0f7a4 yJ5_isLatin1_aae02 cJ5_newCapacity_0f7a4 6 (some .int) "java/lang/StringBuilder" 1 := ⟨zk_1027, zk_1026, ⟨zk_1054, rfl, List.mem_of_getElem? (i := 2) rfl⟩, by decide +kernel, by decide, by decide, by decide +kernel⟩
theorem kw_J7_copyOf : zKS yJ7_copyOf_9075b cJ7_copyOf_9075b 3 (some (.array .byte)) 2 := ⟨zk_1041, zk_1040, zk_57, by decide, by decide, by decide +kernel⟩
set_option maxHeartbeats 4000000 in
theorem ct_newLength (l : Launch) (g : zG) (N : zNs) (zb6 : zIn N 396) (zb7 : zIn N 397) (ad : Int → Nat) (M F : zMem) : zMt l yJ8_newLength_cabcc cJ8_newLength_cabcc 4 (some .int) 1 0 0 g N ad [.int (zI 16), .int (zI 12), .int (zI 18)] M F (zPi (fun r M' F' => 34 = r ∧ M = M' ∧ F = F')) := by
  refine zMt.of "jdk/internal/util/ArraysSupport" rfl (by decide +kernel) (Nat.le_of_ble_eq_true rfl) (fun {p e s m args below meth c ls} C0 Wd hl hret hlk hin => ?_)
  have hl : lv_has ls 4 [(0, .int (zI 16)), (1, .int (zI 12)), (2, .int (zI 18))] := hl
  refine z_iload_n C0 hl 0 rfl dJ8_newLength_cabcc_0 ?_
  refine z_iload_n C0 hl 1 rfl dJ8_newLength_cabcc_1 ?_
  refine z_iload_n C0 hl 2 rfl dJ8_newLength_cabcc_2 ?_
  refine z_invSi (As := [.int (zI 12), .int (zI 18)]) (rest := [.int (zI 16)]) C0 Wd (ct_J9_max_7cf53 l g N zb6 zb7 ad M F 12 (zR_mk (by decide) (by decide)) 18 (zR_mk (by decide) (by decide))) kv_J9_max_7cf53 zk_1031 rfl hl.1 rfl (Nat.le_of_ble_eq_true rfl) (by decide) (by decide) dJ8_newLength_cabcc_3 (fun r M1 F1 H locs hr hp Wd => ?_)
  obtain ⟨rfl, rfl, rfl⟩ := hp
  refine z_iadd C0 dJ8_newLength_cabcc_6 ?_
  refine z_top (show zI (16 + (if (18 : Int) ≤ 12 then 12 else 18)) = zI 34 from rfl) ?_
  refine z_istore_n C0 hl [(3, .int (zI 34)), (0, .int (zI 16)), (1, .int (zI 12)), (2, .int (zI 18))] (by decide) rfl dJ8_newLength_cabcc_7 (fun ls hl => ?_)
  refine z_iconst C0 dJ8_newLength_cabcc_8 ?_
  refine z_iload_n C0 hl 0 rfl dJ8_newLength_cabcc_9 ?_
  refine z_icmp_ge C0 (tgt := 21) (zR_mk (by decide) (by decide)) (zR_mk (by decide) (by decide)) dJ8_newLength_cabcc_10 (by decide) (fun h => absurd h (by decide)) (fun _ => ?_)
  refine z_iload_n C0 hl 0 rfl dJ8_newLength_cabcc_13 ?_
  refine z_ldc C0 zk_1034 (v := 2147483639) (by decide) dJ8_newLength_cabcc_14 ?_
  refine z_icmp_gt C0 (tgt := 21) (zR_mk (by decide) (by decide)) (zR_mk (by decide) (by decide)) dJ8_newLength_cabcc_16 (by decide) (fun h => absurd h (by decide)) (fun _ => ?_)
  refine z_iload_n C0 hl 0 rfl dJ8_newLength_cabcc_19 ?_
  exact z_iret C0 Wd hret hlk (zR_mk (by decide) (by decide)) ⟨rfl, rfl, rfl⟩ dJ8_newLength_cabcc_20
set_option maxHeartbeats 4000000 in
theorem ct_newCapacity (l : Launch) (g : zG) (N : zNs) (zb6 : zIn N 396) (zb7 : zIn N 397) (ad : Int → Nat) (M F : zMem) (hc : M 396 1 = 0) : zMt l yJ5_newCapacity_0f7a4 cJ5_newCapacity_0f7a4 6 (some .int) 2 0 0 g N ad [.ref (ad 396), .int (zI 28)] M F (zPi (fun r M' F' => 34 = r ∧ M = M' ∧ F = F')) := by
  refine zMt.of "java/lang/AbstractStringBuilder" rfl (by decide +kernel) (Nat.le_of_ble_eq_true rfl) (fun {p e s m args below meth c ls} C0 Wd hl hret hlk hin => ?_)
  have hl : lv_has ls 6 [(0, .ref (ad 396)), (1, .int (zI 28))] := hl
  refine z_aload_n C0 hl 0 rfl dJ5_newCapacity_0f7a4_0 ?_
  refine zg_10_0 C0 Wd zb6 zK396 zk_328 dJ5_newCapacity_0f7a4_1 ?_
  refine z_rf (show (396 + 1) = 397 by decide) ?_
  refine z_blen C0 Wd zb7 zK397 zL397 dJ5_newCapacity_0f7a4_4 ?_
  refine z_top (show zI ((16 : Nat) : Int) = zI 16 from rfl) ?_
  refine z_istore_n C0 hl [(2, .int (zI 16)), (0, .ref (ad 396)), (1, .int (zI 28))] (by decide) rfl dJ5_newCapacity_0f7a4_5 (fun ls hl => ?_)
  refine z_iload_n C0 hl 2 rfl dJ5_newCapacity_0f7a4_6 ?_
  refine z_aload_n C0 hl 1 rfl dJ5_newCapacity_0f7a4_7 ?_
  refine zg_10_1 C0 Wd zb6 zK396 zk_329 dJ5_newCapacity_0f7a4_8 ?_
  refine z_top (congrArg zI hc) ?_
  refine z_ishl C0 (v := 28) (by decide) dJ5_newCapacity_0f7a4_11 ?_
  refine z_istore_n C0 hl [(3, .int (zI 28)), (2, .int (zI 16)), (0, .ref (ad 396)), (1, .int (zI 28))] (by decide) rfl dJ5_newCapacity_0f7a4_12 (fun ls hl => ?_)
  refine z_iload_n C0 hl 0 rfl dJ5_newCapacity_0f7a4_13 ?_
  refine z_iload_n C0 hl 1 rfl dJ5_newCapacity_0f7a4_14 ?_
  refine z_isub C0 dJ5_newCapacity_0f7a4_15 ?_
  refine z_top (show zI (28 - 16) = zI 12 from rfl) ?_
  refine z_istore C0 hl [(4, .int (zI 12)), (3, .int (zI 28)), (2, .int (zI 16)), (0, .ref (ad 396)), (1, .int (zI 28))] (by decide) rfl dJ5_newCapacity_0f7a4_16 (fun ls hl => ?_)
  refine z_iload_n C0 hl 2 rfl dJ5_newCapacity_0f7a4_18 ?_
  refine z_iload C0 hl 0 rfl dJ5_newCapacity_0f7a4_19 ?_
  refine z_iload_n C0 hl 2 rfl dJ5_newCapacity_0f7a4_21 ?_
  refine z_iconst C0 dJ5_newCapacity_0f7a4_22 ?_
  refine z_aload_n C0 hl 3 rfl dJ5_newCapacity_0f7a4_23 ?_
  refine zg_10_1 C0 Wd zb6 zK396 zk_329 dJ5_newCapacity_0f7a4_24 ?_
  refine z_top (congrArg zI hc) ?_
  refine z_ishl C0 (v := 2) (by decide) dJ5_newCapacity_0f7a4_27 ?_
  refine z_iadd C0 dJ5_newCapacity_0f7a4_28 ?_
  refine z_top (show zI (16 + 2) = zI 18 from rfl) ?_
  refine z_invSi (As := [.int (zI 16), .int (zI 12), .int (zI 18)]) (rest := []) C0 Wd (ct_newLength l g N zb6 zb7 ad M F) kw_J8_newLength zk_1028 rfl hl.1 rfl (Nat.le_of_ble_eq_true rfl) (by decide) (by decide) dJ5_newCapacity_0f7a4_29 (fun r M1 F1 H locs hr hp Wd => ?_)
  obtain ⟨rfl, rfl, rfl⟩ := hp
  refine z_istore C0 hl [(5, .int (zI 34)), (4, .int (zI 12)), (3, .int (zI 28)), (2, .int (zI 16)), (0, .ref (ad 396)), (1, .int (zI 28))] (by decide) rfl dJ5_newCapacity_0f7a4_32 (fun ls hl => ?_)
  refine z_iload C0 hl 0 rfl dJ5_newCapacity_0f7a4_34 ?_
  refine z_ldc C0 zk_1038 (v := 2147483647) (by decide) dJ5_newCapacity_0f7a4_36 ?_
  refine z_icmp_ne C0 (tgt := 51) (zR_mk (by decide) (by decide)) (zR_mk (by decide) (by decide)) dJ5_newCapacity_0f7a4_38 (by decide) (fun _ => ?_) (fun h => absurd h (by decide))
  refine z_iload C0 hl 0 rfl dJ5_newCapacity_0f7a4_51 ?_
  refine z_aload_n C0 hl 4 rfl dJ5_newCapacity_0f7a4_53 ?_
  refine zg_10_1 C0 Wd zb6 zK396 zk_329 dJ5_newCapacity_0f7a4_54 ?_
  refine z_top (congrArg zI hc) ?_
  refine z_ishr C0 (v := 34) (by decide) dJ5_newCapacity_0f7a4_57 ?_
  exact z_iret C0 Wd hret hlk (zR_mk (by decide) (by decide)) ⟨rfl, rfl, rfl⟩ dJ5_newCapacity_0f7a4_58
set_option maxHeartbeats 4000000 in
set_option maxRecDepth 100000 in
theorem sw_copyOf34 (l : Launch) (g : zG) (b0 : Nat) (bs : List Int32) (hb : bs.length = 16) (hbn : ∀ j : Nat, j < 16 → 0 ≤ zsx bs (j : Int) ∧ zsx bs (j : Int) < 128) : sMt l yJ7_copyOf_9075b cJ7_copyOf_9075b 3 (some (.array .byte)) 1 1 34 g [] [(b0, bs)] [.ref b0, .int (zI 34)] [] (fun v w1 => ∃ q, v = some (.ref q) ∧ w1 = [(q, .inl (g.2.2.1 11, 34, .inl (zcb bs 16)))]) := by
  refine sMt.of "java/util/Arrays" rfl (by decide +kernel) (Nat.le_of_ble_eq_true rfl) (fun {p e s m args below meth c ls} C0 Wd hl hret hlk hin hF => ?_)
  have hX : va_T .byte b0 bs.length (fun j => .int (bs.getD j 0)) _ s s.heap := hF.2 (b0, bs) List.mem_cons_self
  have hl : lv_has ls 3 [(0, .ref b0), (1, .int (zI 34))] := hl
  refine z_iload_n C0 hl 1 rfl dJ7_copyOf_9075b_0 ?_
  refine z_aload_n C0 hl 0 rfl dJ7_copyOf_9075b_1 ?_
  refine x_tlen C0 Wd.2.2 hX dJ7_copyOf_9075b_2 ?_
  refine z_icmp_ne C0 (tgt := 14) (zR_mk (by decide) (by decide)) (zR_mk (by omega) (by omega)) dJ7_copyOf_9075b_3 (by decide) (fun _ => ?_) (fun h => absurd h (by omega))
  refine z_iload_n C0 hl 1 rfl dJ7_copyOf_9075b_14 ?_
  refine r_newa (atype := .byte) C0 Wd zk_342 rfl (ty := .byte) (t := 0) (n := 34) (a0 := (34, .inl (fun _ => 0))) rfl (fun _ => rfl) ⟨by decide, by decide⟩ rfl (by decide) (by decide) (by decide) dJ7_copyOf_9075b_15 (fun q H Wd => ?_)
  refine z_astore_n C0 hl [(2, .ref q), (0, .ref b0), (1, .int (zI 34))] (by decide) rfl dJ7_copyOf_9075b_17 (fun ls hl => ?_)
  refine z_aload_n C0 hl 1 rfl dJ7_copyOf_9075b_18 ?_
  refine z_iconst C0 dJ7_copyOf_9075b_19 ?_
  refine z_aload_n C0 hl 0 rfl dJ7_copyOf_9075b_20 ?_
  refine z_iconst C0 dJ7_copyOf_9075b_21 ?_
  refine z_aload_n C0 hl 1 rfl dJ7_copyOf_9075b_22 ?_
  refine x_tlen C0 Wd.2.2 hX dJ7_copyOf_9075b_23 ?_
  refine z_iload_n C0 hl 2 rfl dJ7_copyOf_9075b_24 ?_
  refine s_invS (wr := _) (wc := []) (As := [.int (zI (bs.length : Int)), .int (zI 34)]) (rest := [.int (zI 0), .ref q, .int (zI 0), .ref b0]) C0 (r_eq Wd (List.append_nil _).symm) (sw_min l g (bs.length : Int) 34 (zR_mk (by omega) (by omega)) (zR_mk (by decide) (by decide))) kw_J9_min_7cf53 zFa_0 zk_1049 rfl hl.1 rfl (Nat.le_of_ble_eq_true rfl) (by decide) (by decide) dJ7_copyOf_9075b_25 (fun v w1 H locs hp Wd => ?_)
  obtain ⟨rfl, rfl⟩ := hp
  rw [show (if (bs.length : Int) ≤ 34 then (bs.length : Int) else 34) = 16 by split <;> omega]
  have c1 := zI_clamp (t := 0) (by decide) (by decide)
  have c3 := zI_clamp (t := 16) (by decide) (by decide)
  have nz : ∀ {x : Int}, 0 ≤ x → x < 2147483648 → ¬ zI x < 0 := by
    intro x h0 h9
    rw [Int32.lt_iff_toInt_lt, zI_toInt (by omega) h9]
    simp
    omega
  refine vk_copyt C0.1.1 C0.1.2.1 (by rw [C0.1.2.2.1, hl.1]) C0.1.2.2.2.1 (C0.1.2.2.2.2 _ zk_1050) (C0.1.2.2.2.2 _ zNat_ac) (C0.1.2.2.2.2 _ zSt_ac) (C0.1.2.2.2.2 _ zIn_sys) C0.2.1 Wd.1 Wd.2.1 Wd.2.2 hX 0 0 rfl rfl (nz (by decide) (by decide)) (nz (by decide) (by decide)) (nz (by decide) (by decide)) (by rw [c1, c3, hb]; decide) (by rw [c1, c3]; decide) (fun j hj => ?_) (by decide) (by decide) dJ7_copyOf_9075b_28 (fun H locs hP hD hS => ?_)
  · rw [c1]
    rw [c3] at hj
    have hj' : j < 16 := hj
    have q := hbn (0 + j) (by omega)
    have e : (bs.getD (0 + j) 0) = zI (zsx bs ((0 + j : Nat) : Int)) := (Int32.ofInt_toInt _).symm
    show fits .byte (.int (bs.getD (Int.toNat 0 + j) 0)) = true
    rw [show Int.toNat 0 + j = 0 + j from rfl, e]
    exact zfit_b q.1 q.2
  have Wd : rW g (va_A [] s.heap.size) s.heap [(q, .inl (g.2.2.1 11, 34, .inl (zcb bs 16)))] H locs := by
    refine r_eq ⟨hP, hD, hS⟩ ?_
    show [(q, _)] = _
    congr 3
    congr 2
    rw [c1, c3]
    congr 1
    funext k
    show (if Int.toNat 0 ≤ k ∧ k < Int.toNat 0 + Int.toNat 16 then bs.getD (Int.toNat 0 + (k - Int.toNat 0)) 0 else 0) = if k < 16 then bs.getD k 0 else 0
    simp
  refine z_aload_n C0 hl 0 rfl dJ7_copyOf_9075b_31 ?_
  refine W.widen (k := 1) (n := 34) (by decide) (by decide) ?_
  exact r_aret C0 Wd hret (Or.inr ⟨_, rfl⟩) hlk ⟨q, rfl, rfl⟩ dJ7_copyOf_9075b_32
/-- the array of the builder at 396 may be copied -/
def zTB (M : zMem) : Prop := ∀ j, 0 ≤ M 397 j ∧ M 397 j < 128
set_option maxHeartbeats 4000000 in
set_option maxRecDepth 100000 in
theorem sw_grow (l : Launch) (g : zG) (ad : Int → Nat) (M F : zMem) (hRM : zRM M) (hc : M 396 1 = 0) (hb : zTB M) : sMt l yJ5_ensureCapacityInternal_d00df cJ5_ensureCapacityInternal_d00df 3 none 3 1 34 g [] [] [.ref (ad 396), .int (zI 28)] (wl g zWn ad M F) (fun v w1 => v = none ∧ ∃ q, w1 = [(ad 396, .inr (10, [.ref q, .int (zI (M 396 1)), .int (zI (M 396 2)), .int (zI (M 396 3))])), BAc g (ad 397) 16 (zRow (M 397)), BAc g q 34 (zcb (zbl M 397 16) 16)]) := by
  refine sMt.of "java/lang/AbstractStringBuilder" rfl (by decide +kernel) (Nat.le_of_ble_eq_true rfl) (fun {p e s m args below meth c ls} C0 Wd hl hret hlk hin hF => ?_)
  have hl : lv_has ls 3 [(0, .ref (ad 396)), (1, .int (zI 28))] := hl
  have Wd := r_zW Wd hRM
  refine z_aload_n C0 hl 0 rfl dJ5_ensureCapacityInternal_d00df_0 ?_
  refine zg_10_0 C0 Wd zwn_b zK396 zk_328 dJ5_ensureCapacityInternal_d00df_1 ?_
  refine z_rf (show (396 + 1) = 397 by decide) ?_
  refine z_blen C0 Wd zwn_v zK397 zL397 dJ5_ensureCapacityInternal_d00df_4 ?_
  refine z_top (show zI ((16 : Nat) : Int) = zI 16 from rfl) ?_
  refine z_aload_n C0 hl 0 rfl dJ5_ensureCapacityInternal_d00df_5 ?_
  refine zg_10_1 C0 Wd zwn_b zK396 zk_329 dJ5_ensureCapacityInternal_d00df_6 ?_
  refine z_top (congrArg zI hc) ?_
  refine z_ishr C0 (v := 16) (by decide) dJ5_ensureCapacityInternal_d00df_9 ?_
  refine z_istore_n C0 hl [(2, .int (zI 16)), (0, .ref (ad 396)), (1, .int (zI 28))] (by decide) rfl dJ5_ensureCapacityInternal_d00df_10 (fun ls hl => ?_)
  refine z_iload_n C0 hl 2 rfl dJ5_ensureCapacityInternal_d00df_11 ?_
  refine z_iload_n C0 hl 0 rfl dJ5_ensureCapacityInternal_d00df_12 ?_
  refine z_isub C0 dJ5_ensureCapacityInternal_d00df_13 ?_
  refine z_if_le C0 (tgt := 38) (zR_mk (by decide) (by decide)) dJ5_ensureCapacityInternal_d00df_14 (by decide) (fun h => absurd h (by decide)) (fun _ => ?_)
  refine z_aload_n C0 hl 1 rfl dJ5_ensureCapacityInternal_d00df_17 ?_
  refine z_aload_n C0 hl 1 rfl dJ5_ensureCapacityInternal_d00df_18 ?_
  refine zg_10_0 C0 Wd zwn_b zK396 zk_328 dJ5_ensureCapacityInternal_d00df_19 ?_
  refine z_rf (show (396 + 1) = 397 by decide) ?_
  refine z_aload_n C0 hl 1 rfl dJ5_ensureCapacityInternal_d00df_22 ?_
  refine z_iload_n C0 hl 2 rfl dJ5_ensureCapacityInternal_d00df_23 ?_
  refine z_invP (As := [.int (zI 28)]) (rest := [.ref (ad 397), .ref (ad 396)]) C0 Wd (ct_newCapacity l g zWn zwn_b zwn_v ad M F hc) kp_newCapacity (zrecvW C0 Wd zwn_b (zE_10 zK396) rfl) zk_1024 rfl hl.1 rfl (Nat.le_of_ble_eq_true rfl) (by decide) (by decide) dJ5_ensureCapacityInternal_d00df_24 (z_kki (fun r M1 F1 H locs hr hp Wd => ?_))
  obtain ⟨rfl, rfl, rfl⟩ := hp
  refine z_aload_n C0 hl 1 rfl dJ5_ensureCapacityInternal_d00df_27 ?_
  refine zg_10_1 C0 Wd zwn_b zK396 zk_329 dJ5_ensureCapacityInternal_d00df_28 ?_
  refine z_top (congrArg zI hc) ?_
  refine z_ishl C0 (v := 34) (by decide) dJ5_ensureCapacityInternal_d00df_31 ?_
  have Wr : rW g (va_A (wl g zWn ad M F) s.heap.size) s.heap (wl g zWn ad M F ++ []) H locs := r_eq (zW_r Wd) (List.append_nil _).symm
  have hmem : (ad 397, Sum.inl (g.2.2.1 11, (zbl M 397 16).length, Sum.inl (zRow (M 397)))) ∈ (wl g zWn ad M F : va_W) := by
    rw [zbl_len, wl_win]
    exact List.mem_cons_of_mem _ List.mem_cons_self
  have hX : zFa [] [(ad 397, zbl M 397 16)] (va_A [] H.size) s H := ⟨fun _ h => (nomatch h), fun t ht => by
    rw [List.mem_singleton.mp ht]
    exact va_T_of C0 (zW_r Wd).1 hmem (fun j hj => by rw [zbl_len] at hj; exact (zbl_at hj).symm) (rW_out Wr hmem)⟩
  refine s_invS (wr := wl g zWn ad M F) (wc := []) (As := [.ref (ad 397), .int (zI 34)]) (rest := [.ref (ad 396)]) C0 Wr (sw_copyOf34 l g (ad 397) (zbl M 397 16) zbl_len (fun j hj => by
    have e9 : zsx (zbl M 397 16) (j : Int) = M 397 (j : Int) := by
      unfold zsx
      rw [Int.toNat_natCast, zbl_at (by omega), zI_tr (hRM _ _)]
      rfl
    rw [e9]
    exact hb _)) kw_J7_copyOf hX zk_1039 rfl hl.1 rfl (Nat.le_of_ble_eq_true rfl) (by decide) (by decide) dJ5_ensureCapacityInternal_d00df_32 (fun v w1 H locs hp Wd => ?_)
  obtain ⟨q, rfl, rfl⟩ := hp
  replace Wd := r_eq Wd (w1 := ([(ad 396, .inr (10, [.ref (ad 397), .int (zI (M 396 1)), .int (zI (M 396 2)), .int (zI (M 396 3))])), BAc g (ad 397) 16 (zRow (M 397)), BAc g q 34 (zcb (zbl M 397 16) 16)] : va_W)) (by rw [wl_win]; rfl)
  refine r_put C0 Wd inZ_10 tyJ4 tyJ4_ok nmJ4 (q0 := 0) rfl rfl (k := 0) (by decide) zk_328 (fun _ h => h) rfl rfl rfl (Nat.le_of_ble_eq_true rfl) dJ5_ensureCapacityInternal_d00df_35 (fun H locs Wd => ?_)
  exact r_vret C0 Wd hret hlk ⟨rfl, q, rfl⟩ dJ5_ensureCapacityInternal_d00df_38
