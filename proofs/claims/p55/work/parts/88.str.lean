/-! text constants -/
/-- the sign at j of a text constant -/
def ztx (q : Int × Int × List Int32) (j : Int) : Int := (q.2.2.getD j.toNat 0).toInt
theorem ztx_f : ∀ q ∈ zTxt, q.1 ≤ 27 → 0 < q.2.2.length ∧ q.2.2.length ≤ 12 := by decide +kernel
theorem ztx_all : ∀ q ∈ zTxt, (0 ≤ q.2.2.length ∧ q.2.2.length ≤ 14) ∧ ∀ b ∈ q.2.2, 0 ≤ b.toInt ∧ b.toInt < 128 := by decide +kernel
theorem ztx_b {q : Int × Int × List Int32} (hq : q ∈ zTxt) (j : Int) : 0 ≤ ztx q j ∧ ztx q j < 128 := by
  unfold ztx
  rw [List.getD_eq_getElem?_getD]
  cases e : q.2.2[j.toNat]? with
  | none => exact ⟨by decide, by decide⟩
  | some b => exact (ztx_all q hq).2 b (List.mem_of_getElem? e)
theorem ztx_v {q : Int × Int × List Int32} {j : Int} : Value.int (q.2.2.getD j.toNat 0) = .int (zI (ztx q j)) := congrArg Value.int (Int32.ofInt_toInt _).symm
section ZBR
variable {g : zG} {p : Program} {l : Launch} {e : Env} {R : Room} {s : State} {m : MethodId} {args : Array Value} {below : List Frame} {meth : Method} {c : Code} {H : Heap} {locs : List Loc} {cells slots : Nat}
variable {cc : ByteArray} {nL : Nat} {own : String} {pc : Nat} {N : zNs} {ls : Array Slot} {ad : Int → Nat} {M F : zMem}
theorem z_bret {P : Int → zMem → zMem → Prop} {x : Int} (C0 : zC g (zA N ad s.heap.size) p s m args c cc nL own) (Wd : zW g (zA N ad s.heap.size) s.heap N ad M F H locs) (hr : meth.sig.returnType = some .byte) (hlk : meth.locks = false) (h0 : 0 ≤ x) (h1 : x < 128) (hp : P x M F) (hdg : decode cc pc = .ok (.ireturn, 1)) : W p l e R s m args below meth c H locs cells slots (zMQ below g N ad (zPi P) args s cells slots) (F0 m pc ls [.int (zI x)]) :=
  W.zret C0.1.1 C0.1.2.1 hr (show Value.int (vp_nar .byte (zI x)) = .int (zI x) by rw [vp_nar_b h0 h1]) (z_ends C0 Wd ⟨x, rfl, zR_mk (by omega) (by omega), hp⟩) Wd.1.2.2.2.2 hdg hlk
end ZBR
theorem zKU_len : zKV yJ0_length_8abf5 cJ0_length_8abf5 1 (some .int) "java/lang/String" 0 := ⟨zk_1085, zk_1083, zk_1084, zk_38, by decide, by decide, by decide +kernel⟩

theorem zI_shr0 {x : Int} : zI x >>> (zI 0 &&& 31) = zI x := by
  rw [show zI 0 &&& 31 = 0 from by decide]
  exact Int32.shiftRight_zero

theorem kv_J0_coder_7d493 : zKV yJ0_coder_7d493 cJ0_coder_7d493 1 (some .byte) "java/lang/String" 0 := ⟨zk_1089, zk_1087, zk_1088, zk_38, by decide, by decide, by decide +kernel⟩
set_option maxHeartbeats 4000000 in
set_option maxRecDepth 100000 in
theorem ct_J0_coder_7d493_c (l : Launch) (g : zG) (N : zNs) (zb6 : zIn N 396) (zb7 : zIn N 397) (ad : Int → Nat) (zM0 zF0 : zMem) (q : Int × Int × List Int32) (hq : q ∈ zTxt) : zMt l yJ0_coder_7d493 cJ0_coder_7d493 1 (some .byte) 0 0 0 g N ad [.ref (g.2.2.2 q.1)] zM0 zF0 (zPi (fun r M' F' => 0 = r ∧ zM0 = M' ∧ zF0 = F')) := by
  refine zMt.of "java/lang/String" rfl (by decide +kernel) (Nat.le_of_ble_eq_true rfl) (fun {p e s m args below meth c ls} C0 Wd hl hret hlk hin => ?_)
  have hl : lv_has ls 1 [(0, .ref (g.2.2.2 q.1))] := hl
  have hlq := (ztx_all q hq).1
  refine z_gets C0 Wd (zc_cs C0) zk_1090 dJ0_coder_7d493_0 ?_
  refine z_top (show (1 : Int32) = zI 1 from rfl) ?_
  refine z_if_eq C0 (tgt := 13) (zR_mk (by decide) (by decide)) dJ0_coder_7d493_3 (by decide) (fun h => absurd h (by decide)) (fun _ => ?_)
  refine z_aload_n C0 hl 0 rfl dJ0_coder_7d493_6 ?_
  refine z_getO C0 Wd (zc_x C0 hq).2.1 zk_1207 dJ0_coder_7d493_7 ?_
  refine z_top (show (0 : Int32) = zI 0 from rfl) ?_
  refine z_goto C0 (tgt := 14) dJ0_coder_7d493_10 (by decide) ?_
  exact z_bret C0 Wd hret hlk (by omega) (by omega) ⟨by first | rfl | (simp only [zb]; first | rfl | (split <;> omega) | omega) | (simp [zb, *]; done) | omega, by first | rfl | (simp [zb, *]; done), rfl⟩ dJ0_coder_7d493_14
theorem kv_J0_isLatin1_aae02 : zKV yJ0_isLatin1_aae02 cJ0_isLatin1_aae02 1 (some .boolean) "java/lang/String" 0 := ⟨zk_1311, zk_1309, zk_1310, zk_38, by decide, by decide, by decide +kernel⟩
set_option maxHeartbeats 4000000 in
set_option maxRecDepth 100000 in
theorem ct_J0_isLatin1_aae02_c (l : Launch) (g : zG) (N : zNs) (zb6 : zIn N 396) (zb7 : zIn N 397) (ad : Int → Nat) (zM0 zF0 : zMem) (q : Int × Int × List Int32) (hq : q ∈ zTxt) : zMt l yJ0_isLatin1_aae02 cJ0_isLatin1_aae02 1 (some .boolean) 0 0 0 g N ad [.ref (g.2.2.2 q.1)] zM0 zF0 (zPi (fun r M' F' => 1 = r ∧ zM0 = M' ∧ zF0 = F')) := by
  refine zMt.of "java/lang/String" rfl (by decide +kernel) (Nat.le_of_ble_eq_true rfl) (fun {p e s m args below meth c ls} C0 Wd hl hret hlk hin => ?_)
  have hl : lv_has ls 1 [(0, .ref (g.2.2.2 q.1))] := hl
  have hlq := (ztx_all q hq).1
  refine z_gets C0 Wd (zc_cs C0) zk_1090 dJ0_isLatin1_aae02_0 ?_
  refine z_top (show (1 : Int32) = zI 1 from rfl) ?_
  refine z_if_eq C0 (tgt := 17) (zR_mk (by decide) (by decide)) dJ0_isLatin1_aae02_3 (by decide) (fun h => absurd h (by decide)) (fun _ => ?_)
  refine z_aload_n C0 hl 0 rfl dJ0_isLatin1_aae02_6 ?_
  refine z_getO C0 Wd (zc_x C0 hq).2.1 zk_1207 dJ0_isLatin1_aae02_7 ?_
  refine z_top (show (0 : Int32) = zI 0 from rfl) ?_
  refine z_if_ne C0 (tgt := 17) (zR_mk (by decide) (by decide)) dJ0_isLatin1_aae02_10 (by decide) (fun h => absurd h (by decide)) (fun _ => ?_)
  refine z_iconst C0 dJ0_isLatin1_aae02_13 ?_
  refine z_goto C0 (tgt := 18) dJ0_isLatin1_aae02_14 (by decide) ?_
  exact z_zret C0 Wd hret hlk (by decide) ⟨by first | rfl | (simp only [zb]; first | rfl | (split <;> omega) | omega) | (simp [zb, *]; done) | omega, by first | rfl | (simp [zb, *]; done), rfl⟩ dJ0_isLatin1_aae02_18
theorem kv_J0_length_8abf5 : zKV yJ0_length_8abf5 cJ0_length_8abf5 1 (some .int) "java/lang/String" 0 := ⟨zk_1085, zk_1083, zk_1084, zk_38, by decide, by decide, by decide +kernel⟩
set_option maxHeartbeats 4000000 in
set_option maxRecDepth 100000 in
theorem ct_J0_length_8abf5_c (l : Launch) (g : zG) (N : zNs) (zb6 : zIn N 396) (zb7 : zIn N 397) (ad : Int → Nat) (zM0 zF0 : zMem) (q : Int × Int × List Int32) (hq : q ∈ zTxt) : zMt l yJ0_length_8abf5 cJ0_length_8abf5 1 (some .int) 1 0 0 g N ad [.ref (g.2.2.2 q.1)] zM0 zF0 (zPi (fun r M' F' => (q.2.2.length : Int) = r ∧ zM0 = M' ∧ zF0 = F')) := by
  refine zMt.of "java/lang/String" rfl (by decide +kernel) (Nat.le_of_ble_eq_true rfl) (fun {p e s m args below meth c ls} C0 Wd hl hret hlk hin => ?_)
  have hl : lv_has ls 1 [(0, .ref (g.2.2.2 q.1))] := hl
  have hlq := (ztx_all q hq).1
  refine z_aload_n C0 hl 0 rfl dJ0_length_8abf5_0 ?_
  refine z_getO C0 Wd (zc_x C0 hq).2.2.1 zk_1206 dJ0_length_8abf5_1 ?_
  refine z_tlen C0 Wd (zc_x C0 hq).2.2.2 dJ0_length_8abf5_4 ?_
  refine z_aload_n C0 hl 0 rfl dJ0_length_8abf5_5 ?_
  refine z_invO (As := []) (rest := [.int (zI (q.2.2.length : Int))]) C0 Wd (ct_J0_coder_7d493_c l g N zb6 zb7 ad zM0 zF0 q hq) kv_J0_coder_7d493 (zrecvO C0 Wd (zc_x C0 hq).1) zk_1086 rfl hl.1 rfl (Nat.le_of_ble_eq_true rfl) (by decide) (by decide) dJ0_length_8abf5_6 (z_kki (fun r1 zMr1 zFr1 H locs hrr1 hp Wd => ?_))
  obtain ⟨rfl, rfl, rfl⟩ := hp
  refine z_ishr C0 (v := (q.2.2.length : Int)) (zI_shr0) dJ0_length_8abf5_9 ?_
  exact z_iret C0 Wd hret hlk (zR_mk (by omega) (by omega)) ⟨by first | rfl | (simp only [zb]; first | rfl | (split <;> omega) | omega) | (simp [zb, *]; done) | omega, by first | rfl | (simp [zb, *]; done), rfl⟩ dJ0_length_8abf5_10
theorem kv_J1_charAt_3b067 : zKS yJ1_charAt_3b067 cJ1_charAt_3b067 2 (some .char) 2 := ⟨zk_1341, zk_1340, zk_59, by decide, by decide, by decide +kernel⟩
set_option maxHeartbeats 4000000 in
set_option maxRecDepth 100000 in
theorem ct_J1_charAt_3b067_c (l : Launch) (g : zG) (N : zNs) (zb6 : zIn N 396) (zb7 : zIn N 397) (ad : Int → Nat) (zM0 zF0 : zMem) (q : Int × Int × List Int32) (hq : q ∈ zTxt) (x0 : Int) (hx0 : zR x0) (h0 : 0 ≤ x0 ∧ x0 < (q.2.2.length : Int)) : zMt l yJ1_charAt_3b067 cJ1_charAt_3b067 2 (some .char) 2 0 0 g N ad [.ref (g.2.2.2 q.2.1), .int (zI x0)] zM0 zF0 (zPi (fun r M' F' => (ztx q x0) = r ∧ zM0 = M' ∧ zF0 = F')) := by
  refine zMt.of "java/lang/StringLatin1" rfl (by decide +kernel) (Nat.le_of_ble_eq_true rfl) (fun {p e s m args below meth c ls} C0 Wd hl hret hlk hin => ?_)
  have hl : lv_has ls 2 [(0, .ref (g.2.2.2 q.2.1)), (1, .int (zI x0))] := hl
  have hlq := (ztx_all q hq).1
  have hbq := ztx_b hq x0
  refine z_iload_n C0 hl 1 rfl dJ1_charAt_3b067_0 ?_
  refine z_aload_n C0 hl 0 rfl dJ1_charAt_3b067_1 ?_
  refine z_tlen C0 Wd (zc_x C0 hq).2.2.2 dJ1_charAt_3b067_2 ?_
  refine z_invSv (As := [.int (zI x0), .int (zI (q.2.2.length : Int))]) (rest := []) C0 Wd (ct_J0_checkIndex_df160 l g N zb6 zb7 ad zM0 zF0 x0 hx0 (q.2.2.length : Int) (zR_mk (by omega) (by omega)) (by omega)) kv_J0_checkIndex_df160 zk_1342 rfl hl.1 rfl (Nat.le_of_ble_eq_true rfl) (by decide) (by decide) dJ1_charAt_3b067_3 (fun zMr1 zFr1 H locs hp Wd => ?_)
  obtain ⟨rfl, rfl⟩ := hp
  refine z_aload_n C0 hl 0 rfl dJ1_charAt_3b067_6 ?_
  refine z_iload_n C0 hl 1 rfl dJ1_charAt_3b067_7 ?_
  refine z_tabb C0 Wd (zc_x C0 hq).2.2.2 (by omega) (by omega) (by omega) (ztx_v (j := x0)) dJ1_charAt_3b067_8 ?_
  refine z_sipush C0 dJ1_charAt_3b067_9 (by decide) ?_
  refine z_iand C0 (v := (ztx q x0)) (zI_and255 (by omega) (by omega)) dJ1_charAt_3b067_12 ?_
  refine z_i2c C0 (v := (ztx q x0)) (zI_char (by omega) (by omega)) dJ1_charAt_3b067_13 ?_
  exact z_cret C0 Wd hret hlk (by omega) (by omega) ⟨by first | rfl | (simp only [zb]; first | rfl | (split <;> omega) | omega) | (simp [zb, *]; done) | omega, by first | rfl | (simp [zb, *]; done), rfl⟩ dJ1_charAt_3b067_14
theorem kv_J0_charAt_5068e : zKV yJ0_charAt_5068e cJ0_charAt_5068e 2 (some .char) "java/lang/String" 1 := ⟨zk_1338, zk_1336, zk_1337, zk_38, by decide, by decide, by decide +kernel⟩
set_option maxHeartbeats 4000000 in
set_option maxRecDepth 100000 in
theorem ct_J0_charAt_5068e_c (l : Launch) (g : zG) (N : zNs) (zb6 : zIn N 396) (zb7 : zIn N 397) (ad : Int → Nat) (zM0 zF0 : zMem) (q : Int × Int × List Int32) (hq : q ∈ zTxt) (x0 : Int) (hx0 : zR x0) (h0 : 0 ≤ x0 ∧ x0 < (q.2.2.length : Int)) : zMt l yJ0_charAt_5068e cJ0_charAt_5068e 2 (some .char) 3 0 0 g N ad [.ref (g.2.2.2 q.1), .int (zI x0)] zM0 zF0 (zPi (fun r M' F' => (ztx q x0) = r ∧ zM0 = M' ∧ zF0 = F')) := by
  refine zMt.of "java/lang/String" rfl (by decide +kernel) (Nat.le_of_ble_eq_true rfl) (fun {p e s m args below meth c ls} C0 Wd hl hret hlk hin => ?_)
  have hl : lv_has ls 2 [(0, .ref (g.2.2.2 q.1)), (1, .int (zI x0))] := hl
  have hlq := (ztx_all q hq).1
  have hbq := ztx_b hq x0
  refine z_aload_n C0 hl 0 rfl dJ0_charAt_5068e_0 ?_
  refine z_invO (As := []) (rest := []) C0 Wd (ct_J0_isLatin1_aae02_c l g N zb6 zb7 ad zM0 zF0 q hq) kv_J0_isLatin1_aae02 (zrecvO C0 Wd (zc_x C0 hq).1) zk_1308 rfl hl.1 rfl (Nat.le_of_ble_eq_true rfl) (by decide) (by decide) dJ0_charAt_5068e_1 (z_kki (fun r1 zMr1 zFr1 H locs hrr1 hp Wd => ?_))
  obtain ⟨rfl, rfl, rfl⟩ := hp
  refine z_if_eq C0 (tgt := 16) (zR_mk (by decide) (by decide)) dJ0_charAt_5068e_4 (by decide) (fun h => absurd h (by decide)) (fun _ => ?_)
  refine z_aload_n C0 hl 0 rfl dJ0_charAt_5068e_7 ?_
  refine z_getO C0 Wd (zc_x C0 hq).2.2.1 zk_1206 dJ0_charAt_5068e_8 ?_
  refine z_iload_n C0 hl 1 rfl dJ0_charAt_5068e_11 ?_
  refine z_invSi (As := [.ref (g.2.2.2 q.2.1), .int (zI x0)]) (rest := []) C0 Wd (ct_J1_charAt_3b067_c l g N zb6 zb7 ad zM0 zF0 q hq x0 hx0 (by omega)) kv_J1_charAt_3b067 zk_1339 rfl hl.1 rfl (Nat.le_of_ble_eq_true rfl) (by decide) (by decide) dJ0_charAt_5068e_12 (fun r4 zMr4 zFr4 H locs hrr4 hp Wd => ?_)
  obtain ⟨rfl, rfl, rfl⟩ := hp
  exact z_cret C0 Wd hret hlk (by omega) (by omega) ⟨by first | rfl | (simp only [zb]; first | rfl | (split <;> omega) | omega) | (simp [zb, *]; done) | omega, by first | rfl | (simp [zb, *]; done), rfl⟩ dJ0_charAt_5068e_15
