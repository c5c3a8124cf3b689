/-! Strings read: length, charAt, getBytes; appended -/
def zsx (bs : List Int32) (j : Int) : Int := (bs.getD j.toNat 0).toInt
def zLt (bs : List Int32) : Prop := bs.length ≤ 60 ∧ ∀ b ∈ bs, 0 ≤ b.toInt ∧ b.toInt < 128
theorem zsx_v {bs : List Int32} {j : Int} : Value.int (bs.getD j.toNat 0) = .int (zI (zsx bs j)) := congrArg Value.int (Int32.ofInt_toInt _).symm
theorem zsx_b {bs : List Int32} (h : zLt bs) (j : Int) : 0 ≤ zsx bs j ∧ zsx bs j < 128 := by
  unfold zsx
  rw [List.getD_eq_getElem?_getD]
  cases e : bs[j.toNat]? with
  | none => exact ⟨by decide, by decide⟩
  | some b => exact h.2 b (List.mem_of_getElem? e)
theorem hS1 {q : Nat × Nat × List Int32} {X : Nat × Nat × List Int32 → Prop} (h : X q) : ∀ z ∈ [q], X z := fun z hz => by rw [List.mem_singleton.mp hz]; exact h
theorem zI_shl0 {x : Int} : zI x <<< (zI 0 &&& 31) = zI x := by
  rw [show zI 0 &&& 31 = 0 from by decide]
  exact Int32.shiftLeft_zero
theorem zfit_b {v : Int} (h0 : 0 ≤ v) (h1 : v < 128) : Jvm.fits .byte (.int (zI v)) = true := by
  have h : ∀ n : Fin 128, Jvm.fits .byte (.int (zI (n.val : Int))) = true := by decide +kernel
  have q := h ⟨v.toNat, by omega⟩
  rwa [show (((⟨v.toNat, by omega⟩ : Fin 128).val : Nat) : Int) = v from Int.toNat_of_nonneg h0] at q
set_option maxHeartbeats 4000000 in
set_option maxRecDepth 100000 in
theorem ct_J3_checkIndex_8e157_n_w (l : Launch) (g : zG) (N : zNs) (ad : Int → Nat) (zM0 zF0 : zMem) (x0 : Int) (hx0 : zR x0) (x1 : Int) (hx1 : zR x1) (h0 : 0 ≤ x0 ∧ x0 < x1) : zMt l yJ3_checkIndex_8e157 cJ3_checkIndex_8e157 3 (some .int) 0 0 0 g N ad [.int (zI x0), .int (zI x1), .null] zM0 zF0 (zPi (fun r M' F' => x0 = r ∧ zM0 = M' ∧ zF0 = F')) := by
  refine zMt.of "jdk/internal/util/Preconditions" rfl (by decide +kernel) (Nat.le_of_ble_eq_true rfl) (fun {p e s m args below meth c ls} C0 Wd hl hret hlk hin => ?_)
  have hl : lv_has ls 3 [(0, .int (zI x0)), (1, .int (zI x1)), (2, .null)] := hl
  refine z_iload_n C0 hl 0 rfl dJ3_checkIndex_8e157_0 ?_
  refine z_if_lt C0 (tgt := 9) hx0 dJ3_checkIndex_8e157_1 (by decide) (fun c1 => absurd c1 (by omega)) (fun c1 => ?_)
  refine z_iload_n C0 hl 0 rfl dJ3_checkIndex_8e157_4 ?_
  refine z_iload_n C0 hl 1 rfl dJ3_checkIndex_8e157_5 ?_
  refine z_icmp_lt C0 (tgt := 16) hx0 hx1 dJ3_checkIndex_8e157_6 (by decide) (fun c2 => ?_) (fun c2 => absurd c2 (by omega))
  refine z_iload_n C0 hl 0 rfl dJ3_checkIndex_8e157_16 ?_
  exact z_iret C0 Wd hret hlk hx0 ⟨by first | rfl | (simp only [zb]; first | rfl | (split <;> omega) | omega) | (simp [zb, *]; done) | omega, by first | rfl | (simp [zb, *]; done), rfl⟩ dJ3_checkIndex_8e157_17
set_option maxHeartbeats 4000000 in
set_option maxRecDepth 100000 in
theorem ct_J3_checkIndex_8e157_r_w (l : Launch) (g : zG) (N : zNs) (ad : Int → Nat) (zM0 zF0 : zMem) (t9 : Nat) (x0 : Int) (hx0 : zR x0) (x1 : Int) (hx1 : zR x1) (h0 : 0 ≤ x0 ∧ x0 < x1) : zMt l yJ3_checkIndex_8e157 cJ3_checkIndex_8e157 3 (some .int) 0 0 0 g N ad [.int (zI x0), .int (zI x1), .ref t9] zM0 zF0 (zPi (fun r M' F' => x0 = r ∧ zM0 = M' ∧ zF0 = F')) := by
  refine zMt.of "jdk/internal/util/Preconditions" rfl (by decide +kernel) (Nat.le_of_ble_eq_true rfl) (fun {p e s m args below meth c ls} C0 Wd hl hret hlk hin => ?_)
  have hl : lv_has ls 3 [(0, .int (zI x0)), (1, .int (zI x1)), (2, .ref t9)] := hl
  refine z_iload_n C0 hl 0 rfl dJ3_checkIndex_8e157_0 ?_
  refine z_if_lt C0 (tgt := 9) hx0 dJ3_checkIndex_8e157_1 (by decide) (fun c1 => absurd c1 (by omega)) (fun c1 => ?_)
  refine z_iload_n C0 hl 0 rfl dJ3_checkIndex_8e157_4 ?_
  refine z_iload_n C0 hl 1 rfl dJ3_checkIndex_8e157_5 ?_
  refine z_icmp_lt C0 (tgt := 16) hx0 hx1 dJ3_checkIndex_8e157_6 (by decide) (fun c2 => ?_) (fun c2 => absurd c2 (by omega))
  refine z_iload_n C0 hl 0 rfl dJ3_checkIndex_8e157_16 ?_
  exact z_iret C0 Wd hret hlk hx0 ⟨by first | rfl | (simp only [zb]; first | rfl | (split <;> omega) | omega) | (simp [zb, *]; done) | omega, by first | rfl | (simp [zb, *]; done), rfl⟩ dJ3_checkIndex_8e157_17
set_option maxHeartbeats 4000000 in
set_option maxRecDepth 100000 in
theorem ct_J0_checkIndex_df160_w (l : Launch) (g : zG) (N : zNs) (ad : Int → Nat) (zM0 zF0 : zMem) (x0 : Int) (hx0 : zR x0) (x1 : Int) (hx1 : zR x1) (h0 : 0 ≤ x0 ∧ x0 < x1) : zMt l yJ0_checkIndex_df160 cJ0_checkIndex_df160 2 none 1 0 0 g N ad [.int (zI x0), .int (zI x1)] zM0 zF0 (zPv (fun M' F' => zM0 = M' ∧ zF0 = F')) := by
  refine zMt.of "java/lang/String" rfl (by decide +kernel) (Nat.le_of_ble_eq_true rfl) (fun {p e s m args below meth c ls} C0 Wd hl hret hlk hin => ?_)
  have hl : lv_has ls 2 [(0, .int (zI x0)), (1, .int (zI x1))] := hl
  refine z_iload_n C0 hl 0 rfl dJ0_checkIndex_df160_0 ?_
  refine z_iload_n C0 hl 1 rfl dJ0_checkIndex_df160_1 ?_
  rcases zc_fm C0 with hZ | ⟨t9, hZ⟩
  · skip
    refine z_gets C0 Wd hZ zk_1068 dJ0_checkIndex_df160_2 ?_
    refine z_invSi (As := [.int (zI x0), .int (zI x1), .null]) (rest := []) C0 Wd (ct_J3_checkIndex_8e157_n_w l g N ad zM0 zF0 x0 hx0 x1 hx1 (by omega)) kv_J3_checkIndex_8e157 zk_1267 rfl hl.1 rfl (Nat.le_of_ble_eq_true rfl) (by decide) (by decide) dJ0_checkIndex_df160_5 (fun r1 zMr1 zFr1 H locs hrr1 hp Wd => ?_)
    obtain ⟨rfl, rfl, rfl⟩ := hp
    refine z_pop C0 rfl dJ0_checkIndex_df160_8 ?_
    exact z_vret C0 Wd hret hlk ⟨by first | rfl | (simp [zb, *]; done), rfl⟩ dJ0_checkIndex_df160_9
  · skip
    refine z_gets C0 Wd hZ zk_1068 dJ0_checkIndex_df160_2 ?_
    refine z_invSi (As := [.int (zI x0), .int (zI x1), .ref t9]) (rest := []) C0 Wd (ct_J3_checkIndex_8e157_r_w l g N ad zM0 zF0 t9 x0 hx0 x1 hx1 (by omega)) kv_J3_checkIndex_8e157 zk_1267 rfl hl.1 rfl (Nat.le_of_ble_eq_true rfl) (by decide) (by decide) dJ0_checkIndex_df160_5 (fun r3 zMr3 zFr3 H locs hrr3 hp Wd => ?_)
    obtain ⟨rfl, rfl, rfl⟩ := hp
    refine z_pop C0 rfl dJ0_checkIndex_df160_8 ?_
    exact z_vret C0 Wd hret hlk ⟨by first | rfl | (simp [zb, *]; done), rfl⟩ dJ0_checkIndex_df160_9
set_option maxHeartbeats 4000000 in
set_option maxRecDepth 100000 in
theorem ct_J0_coder_7d493_s (l : Launch) (g : zG) (N : zNs) (ad : Int → Nat) (zM0 zF0 : zMem) (q : Nat × Nat × List Int32) (hlt : zLt q.2.2) : zMs l yJ0_coder_7d493 cJ0_coder_7d493 1 (some .byte) 0 0 0 g N ad [q] [.ref q.1] zM0 zF0 (zPi (fun r M' F' => 0 = r ∧ zM0 = M' ∧ zF0 = F')) := by
  refine zMs.of "java/lang/String" rfl (by decide +kernel) (Nat.le_of_ble_eq_true rfl) (fun {p e s m args below meth c ls} C0 Wd hl hret hlk hin hS0 => ?_)
  have hS := hS0 q List.mem_cons_self
  have hl : lv_has ls 1 [(0, .ref q.1)] := hl
  have hlq := hlt.1
  refine z_gets C0 Wd (zc_cs C0) zk_1090 dJ0_coder_7d493_0 ?_
  refine z_top (show (1 : Int32) = zI 1 from rfl) ?_
  refine z_if_eq C0 (tgt := 13) (zR_mk (by decide) (by decide)) dJ0_coder_7d493_3 (by decide) (fun h => absurd h (by decide)) (fun _ => ?_)
  refine z_aload_n C0 hl 0 rfl dJ0_coder_7d493_6 ?_
  refine z_getO C0 Wd hS.2.1 zk_1207 dJ0_coder_7d493_7 ?_
  refine z_top (show (0 : Int32) = zI 0 from rfl) ?_
  refine z_goto C0 (tgt := 14) dJ0_coder_7d493_10 (by decide) ?_
  exact z_bret C0 Wd hret hlk (by omega) (by omega) ⟨by first | rfl | (simp only [zb]; first | rfl | (split <;> omega) | omega) | (simp [zb, *]; done) | omega, by first | rfl | (simp [zb, *]; done), rfl⟩ dJ0_coder_7d493_14
set_option maxHeartbeats 4000000 in
set_option maxRecDepth 100000 in
theorem ct_J0_isLatin1_aae02_s (l : Launch) (g : zG) (N : zNs) (ad : Int → Nat) (zM0 zF0 : zMem) (q : Nat × Nat × List Int32) (hlt : zLt q.2.2) : zMs l yJ0_isLatin1_aae02 cJ0_isLatin1_aae02 1 (some .boolean) 0 0 0 g N ad [q] [.ref q.1] zM0 zF0 (zPi (fun r M' F' => 1 = r ∧ zM0 = M' ∧ zF0 = F')) := by
  refine zMs.of "java/lang/String" rfl (by decide +kernel) (Nat.le_of_ble_eq_true rfl) (fun {p e s m args below meth c ls} C0 Wd hl hret hlk hin hS0 => ?_)
  have hS := hS0 q List.mem_cons_self
  have hl : lv_has ls 1 [(0, .ref q.1)] := hl
  have hlq := hlt.1
  refine z_gets C0 Wd (zc_cs C0) zk_1090 dJ0_isLatin1_aae02_0 ?_
  refine z_top (show (1 : Int32) = zI 1 from rfl) ?_
  refine z_if_eq C0 (tgt := 17) (zR_mk (by decide) (by decide)) dJ0_isLatin1_aae02_3 (by decide) (fun h => absurd h (by decide)) (fun _ => ?_)
  refine z_aload_n C0 hl 0 rfl dJ0_isLatin1_aae02_6 ?_
  refine z_getO C0 Wd hS.2.1 zk_1207 dJ0_isLatin1_aae02_7 ?_
  refine z_top (show (0 : Int32) = zI 0 from rfl) ?_
  refine z_if_ne C0 (tgt := 17) (zR_mk (by decide) (by decide)) dJ0_isLatin1_aae02_10 (by decide) (fun h => absurd h (by decide)) (fun _ => ?_)
  refine z_iconst C0 dJ0_isLatin1_aae02_13 ?_
  refine z_goto C0 (tgt := 18) dJ0_isLatin1_aae02_14 (by decide) ?_
  exact z_zret C0 Wd hret hlk (by decide) ⟨by first | rfl | (simp only [zb]; first | rfl | (split <;> omega) | omega) | (simp [zb, *]; done) | omega, by first | rfl | (simp [zb, *]; done), rfl⟩ dJ0_isLatin1_aae02_18
set_option maxHeartbeats 4000000 in
set_option maxRecDepth 100000 in
theorem ct_J0_length_8abf5_s (l : Launch) (g : zG) (N : zNs) (ad : Int → Nat) (zM0 zF0 : zMem) (q : Nat × Nat × List Int32) (hlt : zLt q.2.2) : zMs l yJ0_length_8abf5 cJ0_length_8abf5 1 (some .int) 1 0 0 g N ad [q] [.ref q.1] zM0 zF0 (zPi (fun r M' F' => (q.2.2.length : Int) = r ∧ zM0 = M' ∧ zF0 = F')) := by
  refine zMs.of "java/lang/String" rfl (by decide +kernel) (Nat.le_of_ble_eq_true rfl) (fun {p e s m args below meth c ls} C0 Wd hl hret hlk hin hS0 => ?_)
  have hS := hS0 q List.mem_cons_self
  have hl : lv_has ls 1 [(0, .ref q.1)] := hl
  have hlq := hlt.1
  refine z_aload_n C0 hl 0 rfl dJ0_length_8abf5_0 ?_
  refine z_getO C0 Wd hS.2.2.1 zk_1206 dJ0_length_8abf5_1 ?_
  refine z_tlen C0 Wd hS.2.2.2 dJ0_length_8abf5_4 ?_
  refine z_aload_n C0 hl 0 rfl dJ0_length_8abf5_5 ?_
  refine z_invVs (As := []) (rest := [.int (zI (q.2.2.length : Int))]) C0 Wd (ct_J0_coder_7d493_s l g N ad zM0 zF0 q hlt) kv_J0_coder_7d493 (hS1 (X := fun z => zStr z.1 z.2.1 z.2.2 _ _ _) hS) (zrecvO C0 Wd hS.1) zk_1086 rfl hl.1 rfl (Nat.le_of_ble_eq_true rfl) (by decide) (by decide) dJ0_length_8abf5_6 (z_kki (fun r1 zMr1 zFr1 H locs hrr1 hp Wd => ?_))
  obtain ⟨rfl, rfl, rfl⟩ := hp
  refine z_ishr C0 (v := (q.2.2.length : Int)) (zI_shr0) dJ0_length_8abf5_9 ?_
  exact z_iret C0 Wd hret hlk (zR_mk (by omega) (by omega)) ⟨by first | rfl | (simp only [zb]; first | rfl | (split <;> omega) | omega) | (simp [zb, *]; done) | omega, by first | rfl | (simp [zb, *]; done), rfl⟩ dJ0_length_8abf5_10
set_option maxHeartbeats 4000000 in
set_option maxRecDepth 100000 in
theorem ct_J1_charAt_3b067_s (l : Launch) (g : zG) (N : zNs) (ad : Int → Nat) (zM0 zF0 : zMem) (q : Nat × Nat × List Int32) (hlt : zLt q.2.2) (x0 : Int) (hx0 : zR x0) (h0 : 0 ≤ x0 ∧ x0 < (q.2.2.length : Int)) : zMs l yJ1_charAt_3b067 cJ1_charAt_3b067 2 (some .char) 2 0 0 g N ad [q] [.ref q.2.1, .int (zI x0)] zM0 zF0 (zPi (fun r M' F' => (zsx q.2.2 x0) = r ∧ zM0 = M' ∧ zF0 = F')) := by
  refine zMs.of "java/lang/StringLatin1" rfl (by decide +kernel) (Nat.le_of_ble_eq_true rfl) (fun {p e s m args below meth c ls} C0 Wd hl hret hlk hin hS0 => ?_)
  have hS := hS0 q List.mem_cons_self
  have hl : lv_has ls 2 [(0, .ref q.2.1), (1, .int (zI x0))] := hl
  have hlq := hlt.1
  have hbq := zsx_b hlt x0
  refine z_iload_n C0 hl 1 rfl dJ1_charAt_3b067_0 ?_
  refine z_aload_n C0 hl 0 rfl dJ1_charAt_3b067_1 ?_
  refine z_tlen C0 Wd hS.2.2.2 dJ1_charAt_3b067_2 ?_
  refine z_invSv (As := [.int (zI x0), .int (zI (q.2.2.length : Int))]) (rest := []) C0 Wd (ct_J0_checkIndex_df160_w l g N ad zM0 zF0 x0 hx0 (q.2.2.length : Int) (zR_mk (by omega) (by omega)) (by omega)) kv_J0_checkIndex_df160 zk_1342 rfl hl.1 rfl (Nat.le_of_ble_eq_true rfl) (by decide) (by decide) dJ1_charAt_3b067_3 (fun zMr1 zFr1 H locs hp Wd => ?_)
  obtain ⟨rfl, rfl⟩ := hp
  refine z_aload_n C0 hl 0 rfl dJ1_charAt_3b067_6 ?_
  refine z_iload_n C0 hl 1 rfl dJ1_charAt_3b067_7 ?_
  refine z_tabb C0 Wd hS.2.2.2 (by omega) (by omega) (by omega) (zsx_v (j := x0)) dJ1_charAt_3b067_8 ?_
  refine z_sipush C0 dJ1_charAt_3b067_9 (by decide) ?_
  refine z_iand C0 (v := (zsx q.2.2 x0)) (zI_and255 (by omega) (by omega)) dJ1_charAt_3b067_12 ?_
  refine z_i2c C0 (v := (zsx q.2.2 x0)) (zI_char (by omega) (by omega)) dJ1_charAt_3b067_13 ?_
  exact z_cret C0 Wd hret hlk (by omega) (by omega) ⟨by first | rfl | (simp only [zb]; first | rfl | (split <;> omega) | omega) | (simp [zb, *]; done) | omega, by first | rfl | (simp [zb, *]; done), rfl⟩ dJ1_charAt_3b067_14
set_option maxHeartbeats 4000000 in
set_option maxRecDepth 100000 in
theorem ct_J0_charAt_5068e_s (l : Launch) (g : zG) (N : zNs) (ad : Int → Nat) (zM0 zF0 : zMem) (q : Nat × Nat × List Int32) (hlt : zLt q.2.2) (x0 : Int) (hx0 : zR x0) (h0 : 0 ≤ x0 ∧ x0 < (q.2.2.length : Int)) : zMs l yJ0_charAt_5068e cJ0_charAt_5068e 2 (some .char) 3 0 0 g N ad [q] [.ref q.1, .int (zI x0)] zM0 zF0 (zPi (fun r M' F' => (zsx q.2.2 x0) = r ∧ zM0 = M' ∧ zF0 = F')) := by
  refine zMs.of "java/lang/String" rfl (by decide +kernel) (Nat.le_of_ble_eq_true rfl) (fun {p e s m args below meth c ls} C0 Wd hl hret hlk hin hS0 => ?_)
  have hS := hS0 q List.mem_cons_self
  have hl : lv_has ls 2 [(0, .ref q.1), (1, .int (zI x0))] := hl
  have hlq := hlt.1
  have hbq := zsx_b hlt x0
  refine z_aload_n C0 hl 0 rfl dJ0_charAt_5068e_0 ?_
  refine z_invVs (As := []) (rest := []) C0 Wd (ct_J0_isLatin1_aae02_s l g N ad zM0 zF0 q hlt) kv_J0_isLatin1_aae02 (hS1 (X := fun z => zStr z.1 z.2.1 z.2.2 _ _ _) hS) (zrecvO C0 Wd hS.1) zk_1308 rfl hl.1 rfl (Nat.le_of_ble_eq_true rfl) (by decide) (by decide) dJ0_charAt_5068e_1 (z_kki (fun r1 zMr1 zFr1 H locs hrr1 hp Wd => ?_))
  obtain ⟨rfl, rfl, rfl⟩ := hp
  refine z_if_eq C0 (tgt := 16) (zR_mk (by decide) (by decide)) dJ0_charAt_5068e_4 (by decide) (fun h => absurd h (by decide)) (fun _ => ?_)
  refine z_aload_n C0 hl 0 rfl dJ0_charAt_5068e_7 ?_
  refine z_getO C0 Wd hS.2.2.1 zk_1206 dJ0_charAt_5068e_8 ?_
  refine z_iload_n C0 hl 1 rfl dJ0_charAt_5068e_11 ?_
  refine z_invSs (As := [.ref q.2.1, .int (zI x0)]) (rest := []) C0 Wd (ct_J1_charAt_3b067_s l g N ad zM0 zF0 q hlt x0 hx0 (by omega)) kv_J1_charAt_3b067 (hS1 (X := fun z => zStr z.1 z.2.1 z.2.2 _ _ _) hS) zk_1339 rfl hl.1 rfl (Nat.le_of_ble_eq_true rfl) (by decide) (by decide) dJ0_charAt_5068e_12 (z_kki (fun r4 zMr4 zFr4 H locs hrr4 hp Wd => ?_))
  obtain ⟨rfl, rfl, rfl⟩ := hp
  exact z_cret C0 Wd hret hlk (by omega) (by omega) ⟨by first | rfl | (simp only [zb]; first | rfl | (split <;> omega) | omega) | (simp [zb, *]; done) | omega, by first | rfl | (simp [zb, *]; done), rfl⟩ dJ0_charAt_5068e_15
/-- the text bs is added -/
def zapS (bs : List Int32) (M : zMem) : zMem := zu (zrow M 397 (fun j => if M 396 3 ≤ j ∧ j < M 396 3 + bs.length then zsx bs (j - M 396 3) else M 397 j)) 396 3 (M 396 3 + bs.length)
section ZCT

variable {g : zG} {A : Nat → Prop} {p : Program} {l : Launch} {e : Env} {R : Room} {s : State} {m : MethodId} {args : Array Value} {below : List Frame} {meth : Method} {c : Code} {H : Heap} {locs : List Loc} {cells slots : Nat} {Q : State → Prop}
variable {cc : ByteArray} {nL : Nat} {own : String} {pc : Nat} {N : zNs} {ls : Array Slot} {rest : List Value} {ad : Int → Nat} {M F : zMem}
theorem z_copyt {i : Int} {n1 idx : Nat} {b0 : Nat} {bs : List Int32} {dp : Int} (C0 : zC g A p s m args c cc nL own) (Wd : zW g A s.heap N ad M F H locs) (hsz : ls.size = nL) (hb : zLt bs) (hX : va_T .byte b0 bs.length (fun j => .int (bs.getD j 0)) A s s.heap) (hi : zIn N i) (hk : zkd i = 11) (hn : zln i = n1) (h0 : 0 ≤ dp) (h1 : dp + bs.length ≤ n1) (hN : n1 ≤ 2147483647) (hR : 1 ≤ R.frames ∧ (rest.map fun v => v.category).sum + (nativeFrameWords "java/lang/System" "arraycopy" 5 + 11) ≤ R.locals) (hlink : Cond.methodLink own idx arraycopyName ∈ zT) (hdg : decode cc pc = .ok (.invokestatic idx, 3))
    (kk : ∀ (H1 : Heap) (locs1 : List Loc), zW g A s.heap N ad (zrow M i (fun j => if dp ≤ j ∧ j < dp + bs.length then zsx bs (j - dp) else M i j)) F H1 locs1 → W p l e R s m args below meth c H1 locs1 cells slots Q (F0 m (pc + 3) ls rest)) : W p l e R s m args below meth c H locs cells slots Q (F0 m pc ls (.int (zI (bs.length : Int)) :: .int (zI dp) :: .ref (ad i) :: .int (zI 0) :: .ref b0 :: rest)) := by
  have hl := hb.1
  have c1 := zI_clamp (t := 0) (by decide) (by decide)
  have c2 := zI_clamp h0 (by omega)
  have c3 := zI_clamp (t := (bs.length : Int)) (by omega) (by omega)
  have nz : ∀ {x : Int}, 0 ≤ x → x < 2147483648 → ¬ zI x < 0 := by
    intro x h0 h9
    rw [Int32.lt_iff_toInt_lt, zI_toInt (by omega) h9]
    simp
    omega
  refine vk_copyt C0.1.1 C0.1.2.1 (by rw [C0.1.2.2.1, hsz]) C0.1.2.2.2.1 (C0.1.2.2.2.2 _ hlink) (C0.1.2.2.2.2 _ zNat_ac) (C0.1.2.2.2.2 _ zSt_ac) (C0.1.2.2.2.2 _ zIn_sys) C0.2.1 Wd.1.1 Wd.1.2.1 Wd.1.2.2 hX (i - N.1).toNat 0 (by rw [wl_get hi, zE_11 hk, hn]) rfl (nz (by decide) (by decide)) (nz h0 (by omega)) (nz (by omega) (by omega)) (by rw [c1, c3]; omega) (by rw [c2, c3]; omega) (fun j hj => ?_) hR.1 hR.2 hdg (fun H1 locs1 hP hD hS => ?_)
  · rw [c1, c3] at *
    have q := zsx_b hb ((0 + j : Nat) : Int)
    have e : (bs.getD (0 + j) 0) = zI (zsx bs ((0 + j : Nat) : Int)) := (Int32.ofInt_toInt _).symm
    show fits .byte (.int (bs.getD (Int.toNat 0 + j) 0)) = true
    rw [show Int.toNat 0 + j = 0 + j from rfl, e]
    exact zfit_b q.1 q.2
  have e1 : va_cpy (fun j => bs.getD j 0) (zRow (M i)) (zI 0).toNatClampNeg (zI dp).toNatClampNeg (zI (bs.length : Int)).toNatClampNeg = zRow (fun j => if dp ≤ j ∧ j < dp + bs.length then zsx bs (j - dp) else M i j) := by
    rw [c1, c2, c3]
    funext b
    simp only [va_cpy, zRow]
    by_cases h : dp.toNat ≤ b ∧ b < dp.toNat + (bs.length : Int).toNat
    · rw [if_pos h, if_pos (by omega)]
      have e : (b - dp.toNat) = ((b : Int) - dp).toNat := by omega
      show bs.getD (Int.toNat 0 + (b - dp.toNat)) 0 = zI (zsx bs ((b : Int) - dp))
      rw [show Int.toNat 0 + (b - dp.toNat) = ((b : Int) - dp).toNat by simp; omega]
      exact (Int32.ofInt_toInt _).symm
    · rw [if_neg h, if_neg (by omega)]
  rw [e1] at hP hD
  rw [wl_put (M' := zrow M i (fun j => if dp ≤ j ∧ j < dp + bs.length then zsx bs (j - dp) else M i j)) (F' := F) hi (by rw [zE_11 hk, hn, zrow_same]) (fun a ha => zrow_ne ha) (fun _ _ => rfl)] at hP hD
  refine kk H1 locs1 ⟨⟨hP, hD, hS⟩, zRM_zrow Wd.2 (fun j => ?_)⟩
  show zR (if _ then _ else _)
  split
  · have q := zsx_b hb (j - dp)
    exact ⟨by omega, by omega⟩
  · exact Wd.2 i j
end ZCT
theorem kv_J0_getBytes_840e7 : zKV yJ0_getBytes_840e7 cJ0_getBytes_840e7 4 none "java/lang/String" 3 := ⟨zk_1122, zk_1120, zk_1121, zk_38, by decide, by decide, by decide +kernel⟩
theorem kp_J5_inflateIfNeededFor_a7421 : zKP yJ5_inflateIfNeededFor_a7421 yJ5_isLatin1_aae02 cJ5_inflateIfNeededFor_a7421 2 none "java/lang/StringBuilder" 1 := ⟨zk_1098, zk_1097, ⟨zk_1054, rfl, List.mem_of_getElem? (i := 1) rfl⟩, by decide +kernel, by decide, by decide, by decide +kernel⟩
theorem kp_J5_putStringAt_47b60 : zKP yJ5_putStringAt_47b60 yJ5_isLatin1_aae02 cJ5_putStringAt_47b60 3 none "java/lang/StringBuilder" 2 := ⟨zk_1094, zk_1093, ⟨zk_1054, rfl, List.mem_of_getElem? (i := 3) rfl⟩, by decide +kernel, by decide, by decide, by decide +kernel⟩
theorem ku_J5_append_cf1ce : zKU9 yJ5_append_cf1ce yJ5_isLatin1_aae02 cJ5_append_cf1ce 3 (some (.object "java/lang/AbstractStringBuilder")) "java/lang/StringBuilder" "java/lang/StringBuilder" 4 1 := ⟨zk_1015, zk_1014, ⟨by decide +kernel, by decide +kernel, zk_1054, rfl⟩, by decide +kernel, by decide, by decide, by decide, by decide +kernel⟩
theorem kv_J4_append_15ec4 : zKV yJ4_append_15ec4 cJ4_append_15ec4 2 (some (.object "java/lang/StringBuilder")) "java/lang/StringBuilder" 1 := ⟨zk_1012, zk_1010, zk_1011, zk_37, by decide, by decide, by decide +kernel⟩
set_option maxHeartbeats 4000000 in
set_option maxRecDepth 100000 in
theorem ct_J0_getBytes_840e7 (l : Launch) (g : zG) (N : zNs) (zb6 : zIn N 396) (zb7 : zIn N 397) (ad : Int → Nat) (zM0 zF0 : zMem) (q : Nat × Nat × List Int32) (hlt : zLt q.2.2) (x1 : Int) (hx1 : zR x1) (h1 : 0 ≤ x1 ∧ x1 + q.2.2.length ≤ 16) : zMs l yJ0_getBytes_840e7 cJ0_getBytes_840e7 4 none 1 0 0 g N ad [q] [.ref q.1, .ref (ad 397), .int (zI x1), .int (zI 0)] zM0 zF0 (zPv (fun M' F' => zrow zM0 397 (fun j => if x1 ≤ j ∧ j < x1 + q.2.2.length then zsx q.2.2 (j - x1) else zM0 397 j) = M' ∧ zF0 = F')) := by
  refine zMs.of "java/lang/String" rfl (by decide +kernel) (Nat.le_of_ble_eq_true rfl) (fun {p e s m args below meth c ls} C0 Wd hl hret hlk hin hS0 => ?_)
  have hS := hS0 q List.mem_cons_self
  have hl : lv_has ls 4 [(0, .ref q.1), (1, .ref (ad 397)), (2, .int (zI x1)), (3, .int (zI 0))] := hl
  have hlq := hlt.1
  refine z_aload_n C0 hl 0 rfl dJ0_getBytes_840e7_0 ?_
  refine z_invVs (As := []) (rest := []) C0 Wd (ct_J0_coder_7d493_s l g N ad zM0 zF0 q hlt) kv_J0_coder_7d493 (hS1 (X := fun z => zStr z.1 z.2.1 z.2.2 _ _ _) hS) (zrecvO C0 Wd hS.1) zk_1086 rfl hl.1 rfl (Nat.le_of_ble_eq_true rfl) (by decide) (by decide) dJ0_getBytes_840e7_1 (z_kki (fun r1 zMr1 zFr1 H locs hrr1 hp Wd => ?_))
  obtain ⟨rfl, rfl, rfl⟩ := hp
  refine z_iload_n C0 hl 3 rfl dJ0_getBytes_840e7_4 ?_
  refine z_icmp_ne C0 (tgt := 28) (zR_mk (by decide) (by decide)) (zR_mk (by decide) (by decide)) dJ0_getBytes_840e7_5 (by decide) (fun h => absurd rfl h) (fun _ => ?_)
  refine z_aload_n C0 hl 0 rfl dJ0_getBytes_840e7_8 ?_
  refine z_getO C0 Wd hS.2.2.1 zk_1206 dJ0_getBytes_840e7_9 ?_
  refine z_iconst C0 dJ0_getBytes_840e7_12 ?_
  refine z_aload_n C0 hl 1 rfl dJ0_getBytes_840e7_13 ?_
  refine z_iload_n C0 hl 2 rfl dJ0_getBytes_840e7_14 ?_
  refine z_iload_n C0 hl 3 rfl dJ0_getBytes_840e7_15 ?_
  refine z_ishl C0 (v := x1) zI_shl0 dJ0_getBytes_840e7_16 ?_
  refine z_aload_n C0 hl 0 rfl dJ0_getBytes_840e7_17 ?_
  refine z_getO C0 Wd hS.2.2.1 zk_1206 dJ0_getBytes_840e7_18 ?_
  refine z_tlen C0 Wd hS.2.2.2 dJ0_getBytes_840e7_21 ?_
  refine z_copyt C0 Wd hl.1 hlt hS.2.2.2 zb7 zK397 zL397 h1.1 h1.2 (by decide) ⟨by decide, by decide⟩ zk_1123 dJ0_getBytes_840e7_22 (fun H locs Wd => ?_)
  refine z_goto C0 (tgt := 43) dJ0_getBytes_840e7_25 (by decide) ?_
  exact z_vret C0 Wd hret hlk ⟨rfl, rfl⟩ dJ0_getBytes_840e7_43
set_option maxHeartbeats 4000000 in
set_option maxRecDepth 100000 in
theorem ct_J5_inflateIfNeededFor_a7421 (l : Launch) (g : zG) (N : zNs) (zb6 : zIn N 396) (zb7 : zIn N 397) (ad : Int → Nat) (zM0 zF0 : zMem) (q : Nat × Nat × List Int32) (hlt : zLt q.2.2) (hc : zM0 396 1 = 0) : zMs l yJ5_inflateIfNeededFor_a7421 cJ5_inflateIfNeededFor_a7421 2 none 1 0 0 g N ad [q] [.ref (ad 396), .ref q.1] zM0 zF0 (zPv (fun M' F' => zM0 = M' ∧ zF0 = F')) := by
  refine zMs.of "java/lang/AbstractStringBuilder" rfl (by decide +kernel) (Nat.le_of_ble_eq_true rfl) (fun {p e s m args below meth c ls} C0 Wd hl hret hlk hin hS0 => ?_)
  have hS := hS0 q List.mem_cons_self
  have hl : lv_has ls 2 [(0, .ref (ad 396)), (1, .ref q.1)] := hl
  refine z_gets C0 Wd (zc_cs C0) zk_319 dJ5_inflateIfNeededFor_a7421_0 ?_
  refine z_top (show (1 : Int32) = zI 1 from rfl) ?_
  refine z_if_eq C0 (tgt := 21) (zR_mk (by decide) (by decide)) dJ5_inflateIfNeededFor_a7421_3 (by decide) (fun h => absurd h (by decide)) (fun _ => ?_)
  refine z_aload_n C0 hl 0 rfl dJ5_inflateIfNeededFor_a7421_6 ?_
  refine zg_10_1 C0 Wd zb6 zK396 zk_329 dJ5_inflateIfNeededFor_a7421_7 ?_
  refine z_top (congrArg zI hc) ?_
  refine z_aload_n C0 hl 1 rfl dJ5_inflateIfNeededFor_a7421_10 ?_
  refine z_invVs (As := []) (rest := [.int (zI 0)]) C0 Wd (ct_J0_coder_7d493_s l g N ad zM0 zF0 q hlt) kv_J0_coder_7d493 (hS1 (X := fun z => zStr z.1 z.2.1 z.2.2 _ _ _) hS) (zrecvO C0 Wd hS.1) zk_1099 rfl hl.1 rfl (Nat.le_of_ble_eq_true rfl) (by decide) (by decide) dJ5_inflateIfNeededFor_a7421_11 (z_kki (fun r1 zMr1 zFr1 H locs hrr1 hp Wd => ?_))
  obtain ⟨rfl, rfl, rfl⟩ := hp
  refine z_icmp_eq C0 (tgt := 21) (zR_mk (by decide) (by decide)) (zR_mk (by decide) (by decide)) dJ5_inflateIfNeededFor_a7421_14 (by decide) (fun _ => ?_) (fun h => absurd rfl h)
  exact z_vret C0 Wd hret hlk ⟨rfl, rfl⟩ dJ5_inflateIfNeededFor_a7421_21
set_option maxHeartbeats 4000000 in
set_option maxRecDepth 100000 in
theorem ct_J5_putStringAt_47b60 (l : Launch) (g : zG) (N : zNs) (zb6 : zIn N 396) (zb7 : zIn N 397) (ad : Int → Nat) (zM0 zF0 : zMem) (q : Nat × Nat × List Int32) (hlt : zLt q.2.2) (x1 : Int) (hx1 : zR x1) (hc : zM0 396 1 = 0) (h1 : 0 ≤ x1 ∧ x1 + q.2.2.length ≤ 16) : zMs l yJ5_putStringAt_47b60 cJ5_putStringAt_47b60 3 none 2 0 0 g N ad [q] [.ref (ad 396), .int (zI x1), .ref q.1] zM0 zF0 (zPv (fun M' F' => zrow zM0 397 (fun j => if x1 ≤ j ∧ j < x1 + q.2.2.length then zsx q.2.2 (j - x1) else zM0 397 j) = M' ∧ zF0 = F')) := by
  refine zMs.of "java/lang/AbstractStringBuilder" rfl (by decide +kernel) (Nat.le_of_ble_eq_true rfl) (fun {p e s m args below meth c ls} C0 Wd hl hret hlk hin hS0 => ?_)
  have hS := hS0 q List.mem_cons_self
  have hl : lv_has ls 3 [(0, .ref (ad 396)), (1, .int (zI x1)), (2, .ref q.1)] := hl
  refine z_aload_n C0 hl 0 rfl dJ5_putStringAt_47b60_0 ?_
  refine z_aload_n C0 hl 2 rfl dJ5_putStringAt_47b60_1 ?_
  refine z_invPs (As := [.ref q.1]) (rest := []) C0 Wd (ct_J5_inflateIfNeededFor_a7421 l g N zb6 zb7 ad zM0 zF0 q hlt hc) kp_J5_inflateIfNeededFor_a7421 (hS1 (X := fun z => zStr z.1 z.2.1 z.2.2 _ _ _) hS) (zrecvW C0 Wd zb6 (zE_10 zK396) rfl) zk_1095 rfl hl.1 rfl (Nat.le_of_ble_eq_true rfl) (by decide) (by decide) dJ5_putStringAt_47b60_2 (z_kkv (fun zMr2 zFr2 H locs hp Wd => ?_))
  obtain ⟨rfl, rfl⟩ := hp
  refine z_aload_n C0 hl 2 rfl dJ5_putStringAt_47b60_5 ?_
  refine z_aload_n C0 hl 0 rfl dJ5_putStringAt_47b60_6 ?_
  refine zg_10_0 C0 Wd zb6 zK396 zk_328 dJ5_putStringAt_47b60_7 ?_
  refine z_rf (show (396 + 1) = 397 by decide) ?_
  refine z_iload_n C0 hl 1 rfl dJ5_putStringAt_47b60_10 ?_
  refine z_aload_n C0 hl 0 rfl dJ5_putStringAt_47b60_11 ?_
  refine zg_10_1 C0 Wd zb6 zK396 zk_329 dJ5_putStringAt_47b60_12 ?_
  refine z_top (congrArg zI hc) ?_
  refine z_invVs (As := [.ref (ad 397), .int (zI x1), .int (zI 0)]) (rest := []) C0 Wd (ct_J0_getBytes_840e7 l g N zb6 zb7 ad zM0 zF0 q hlt x1 hx1 h1) kv_J0_getBytes_840e7 (hS1 (X := fun z => zStr z.1 z.2.1 z.2.2 _ _ _) hS) (zrecvO C0 Wd hS.1) zk_1119 rfl hl.1 rfl (Nat.le_of_ble_eq_true rfl) (by decide) (by decide) dJ5_putStringAt_47b60_15 (z_kkv (fun zMr3 zFr3 H locs hp Wd => ?_))
  obtain ⟨rfl, rfl⟩ := hp
  exact z_vret C0 Wd hret hlk ⟨rfl, rfl⟩ dJ5_putStringAt_47b60_18
set_option maxHeartbeats 4000000 in
set_option maxRecDepth 100000 in
theorem ct_J5_append_cf1ce (l : Launch) (g : zG) (N : zNs) (zb6 : zIn N 396) (zb7 : zIn N 397) (ad : Int → Nat) (zM0 zF0 : zMem) (q : Nat × Nat × List Int32) (hlt : zLt q.2.2) (hc : zM0 396 1 = 0) (h3 : 0 ≤ zM0 396 3 ∧ zM0 396 3 + q.2.2.length ≤ 16) : zMs l yJ5_append_cf1ce cJ5_append_cf1ce 3 (some (.object "java/lang/AbstractStringBuilder")) 3 0 0 g N ad [q] [.ref (ad 396), .ref q.1] zM0 zF0 (zPr ad (fun r M' F' => 396 = r ∧ (zapS q.2.2 zM0) = M' ∧ zF0 = F')) := by
  refine zMs.of "java/lang/AbstractStringBuilder" rfl (by decide +kernel) (Nat.le_of_ble_eq_true rfl) (fun {p e s m args below meth c ls} C0 Wd hl hret hlk hin hS0 => ?_)
  have hS := hS0 q List.mem_cons_self
  have hl : lv_has ls 3 [(0, .ref (ad 396)), (1, .ref q.1)] := hl
  have hlq := hlt.1
  refine z_aload_n C0 hl 1 rfl dJ5_append_cf1ce_0 ?_
  refine lv_ifnonnull C0.1.1 C0.1.2.1 (tgt := 9) dJ5_append_cf1ce_1 (by decide) ?_
  refine z_aload_n C0 hl 1 rfl dJ5_append_cf1ce_9 ?_
  refine z_invVs (As := []) (rest := []) C0 Wd (ct_J0_length_8abf5_s l g N ad zM0 zF0 q hlt) kv_J0_length_8abf5 (hS1 (X := fun z => zStr z.1 z.2.1 z.2.2 _ _ _) hS) (zrecvO C0 Wd hS.1) zk_1082 rfl hl.1 rfl (Nat.le_of_ble_eq_true rfl) (by decide) (by decide) dJ5_append_cf1ce_10 (z_kki (fun r1 zMr1 zFr1 H locs hrr1 hp Wd => ?_))
  obtain ⟨rfl, rfl, rfl⟩ := hp
  refine z_istore_n C0 hl [(2, .int (zI (q.2.2.length : Int))), (0, .ref (ad 396)), (1, .ref q.1)] (by decide) rfl dJ5_append_cf1ce_13 (fun ls hl => ?_)
  refine z_aload_n C0 hl 1 rfl dJ5_append_cf1ce_14 ?_
  refine z_aload_n C0 hl 1 rfl dJ5_append_cf1ce_15 ?_
  refine zg_10_3 C0 Wd zb6 zK396 zk_332 dJ5_append_cf1ce_16 ?_
  refine z_iload_n C0 hl 0 rfl dJ5_append_cf1ce_19 ?_
  refine z_iadd C0 dJ5_append_cf1ce_20 ?_
  refine z_invP (As := [.int (zI (zM0 396 3 + (q.2.2.length : Int)))]) (rest := []) C0 Wd (ct_J5_ensureCapacityInternal_d00df l g N zb6 zb7 ad zM0 zF0 (zM0 396 3 + (q.2.2.length : Int)) (zR_mk (by omega) (by omega)) hc (by omega)) kp_ensure (zrecvW C0 Wd zb6 (zE_10 zK396) rfl) zk_1020 rfl hl.1 rfl (Nat.le_of_ble_eq_true rfl) (by decide) (by decide) dJ5_append_cf1ce_21 (z_kkv (fun zMr2 zFr2 H locs hp Wd => ?_))
  obtain ⟨rfl, rfl⟩ := hp
  refine z_aload_n C0 hl 1 rfl dJ5_append_cf1ce_24 ?_
  refine z_aload_n C0 hl 1 rfl dJ5_append_cf1ce_25 ?_
  refine zg_10_3 C0 Wd zb6 zK396 zk_332 dJ5_append_cf1ce_26 ?_
  refine z_aload_n C0 hl 2 rfl dJ5_append_cf1ce_29 ?_
  refine z_invPs (As := [.int (zI (zM0 396 3)), .ref q.1]) (rest := []) C0 Wd (ct_J5_putStringAt_47b60 l g N zb6 zb7 ad zM0 zF0 q hlt (zM0 396 3) (Wd.rm _ _) hc (by omega)) kp_J5_putStringAt_47b60 (hS1 (X := fun z => zStr z.1 z.2.1 z.2.2 _ _ _) hS) (zrecvW C0 Wd zb6 (zE_10 zK396) rfl) zk_1091 rfl hl.1 rfl (Nat.le_of_ble_eq_true rfl) (by decide) (by decide) dJ5_append_cf1ce_30 (z_kkv (fun zMr3 zFr3 H locs hp Wd => ?_))
  obtain ⟨rfl, rfl⟩ := hp
  refine z_aload_n C0 hl 1 rfl dJ5_append_cf1ce_33 ?_
  refine z_dup C0 rfl dJ5_append_cf1ce_34 ?_
  refine zg_10_3 C0 Wd zb6 zK396 zk_332 dJ5_append_cf1ce_35 ?_
  refine z_top (congrArg zI (congrFun (zrow_ne (by decide)) _)) ?_
  refine z_iload_n C0 hl 0 rfl dJ5_append_cf1ce_38 ?_
  refine z_iadd C0 dJ5_append_cf1ce_39 ?_
  refine zp_10_3 C0 Wd zb6 zK396 (zR_mk (by omega) (by omega)) zk_332 dJ5_append_cf1ce_40 (fun H locs Wd => ?_)
  refine z_aload_n C0 hl 1 rfl dJ5_append_cf1ce_43 ?_
  exact z_aret C0 Wd hret hlk ⟨rfl, rfl, rfl⟩ dJ5_append_cf1ce_44
section ZSUS

variable {g : zG} {A : Nat → Prop} {p : Program} {l : Launch} {e : Env} {R : Room} {s : State} {m : MethodId} {args : Array Value} {below : List Frame} {meth : Method} {c : Code} {H : Heap} {locs : List Loc} {cells slots : Nat} {Q : State → Prop}
variable {cc : ByteArray} {nL : Nat} {own : String} {pc : Nat} {N : zNs} {ls : Array Slot} {rest st0 : List Value} {ad : Int → Nat} {M F : zMem} {S : zSs}
variable {post : Option Value → zMem → zMem → Prop} {mc ms : Nat}
theorem z_invSUs {b k : Nat} {C : String} {y z : MethodName} {cc' : ByteArray} {nL' : Nat} {ret' : Option FieldType} {d n idx : Nat} {As : List Value} (C0 : zC g A p s m args c cc nL own) (Wd : zW g A s.heap N ad M F H locs) (hM : zMs l y cc' nL' ret' d mc ms g N ad S (.ref b :: As) M F post) (kv : zKU9 y z cc' nL' ret' own C k n) (hS : ∀ q ∈ S, zStr q.1 q.2.1 q.2.2 A s s.heap) (hrecv : ∃ cell : Cell, H[b]? = some cell ∧ cell.vm.isStatics = false ∧ s.vm.findClass C = some cell.cls) (hlink : Cond.methodLink own idx y ∈ zT) (hn : As.length = n) (hsz : ls.size = nL) (hst0 : st0 = As.reverse ++ .ref b :: rest) (hst : (rest.map fun v => v.category).sum ≤ 8) (hR : d + 1 ≤ R.frames ∧ 8 + (nL' + 11) + 60 * d ≤ R.locals) (hf : cells + mc ≤ R.cells ∧ slots + ms ≤ R.slots) (hdg : decode cc pc = .ok (.invokespecial idx, 3)) (kk : ∀ (v : Option Value) (M' F' : zMem) (H1 : Heap) (locs1 : List Loc), post v M' F' → zW g A s.heap N ad M' F' H1 locs1 → W p l e R s m args below meth c H1 locs1 (cells + mc) (slots + ms) Q (F0 m (pc + 3) ls (v.toList ++ rest))) : W p l e R s m args below meth c H locs cells slots Q (F0 m pc ls st0) := by
  obtain ⟨k1, k2, k3, k4, k5, k6, k7, k8⟩ := kv
  have hins := C0.1.2.2.2.2 _ k3.2.1
  obtain ⟨c1, kX, hc1, hk, hord, -⟩ := Cond.instantiable_spec (show (Cond.instantiable C k).holds args s none s [] = true from hins)
  refine z_call (va_runSU (As := As) (rest := rest) (cC := c1) ⟨hc1, kX, hk, hord⟩ C0.1 (hM H.size) ⟨⟨rfl, rfl, hR.1, hR.2, pay_in C0.1.2.2.2.2 (zGoodT k1), List.mem_cons_self⟩, C0.1.2.2.2.2 _ hlink, z_sameM (C0.1.2.2.2.2 _ k3.2.2.1) k3.2.2.2 (C0.1.2.2.2.2 _ k2) ⟨k5, k6⟩, C0.1.2.2.2.2 _ k3.1, C0.1.2.2.2.2 _ k2, C0.1.2.2.2.2 _ k4, C0.1.2.2.2.2 _ k1, k7, fun sig h => ?_⟩ ⟨zPreS_blind, hrecv, zPreS_of C0 Wd (zStr_in C0 Wd hS) _⟩ rfl hn hsz hst0 (lv_room hst) hdg hf) C0 Wd kk
  rw [h] at k8
  exact (Option.some.inj k8).symm
end ZSUS
set_option maxHeartbeats 4000000 in
set_option maxRecDepth 100000 in
theorem ct_J4_append_15ec4 (l : Launch) (g : zG) (N : zNs) (zb6 : zIn N 396) (zb7 : zIn N 397) (ad : Int → Nat) (zM0 zF0 : zMem) (q : Nat × Nat × List Int32) (hlt : zLt q.2.2) (hc : zM0 396 1 = 0) (h3 : 0 ≤ zM0 396 3 ∧ zM0 396 3 + q.2.2.length ≤ 16) : zMs l yJ4_append_15ec4 cJ4_append_15ec4 2 (some (.object "java/lang/StringBuilder")) 4 0 0 g N ad [q] [.ref (ad 396), .ref q.1] zM0 zF0 (zPr ad (fun r M' F' => 396 = r ∧ (zapS q.2.2 zM0) = M' ∧ zF0 = F')) := by
  refine zMs.of "java/lang/StringBuilder" rfl (by decide +kernel) (Nat.le_of_ble_eq_true rfl) (fun {p e s m args below meth c ls} C0 Wd hl hret hlk hin hS0 => ?_)
  have hS := hS0 q List.mem_cons_self
  have hl : lv_has ls 2 [(0, .ref (ad 396)), (1, .ref q.1)] := hl
  refine z_aload_n C0 hl 0 rfl dJ4_append_15ec4_0 ?_
  refine z_aload_n C0 hl 1 rfl dJ4_append_15ec4_1 ?_
  refine z_invSUs (As := [.ref q.1]) (rest := []) C0 Wd (ct_J5_append_cf1ce l g N zb6 zb7 ad zM0 zF0 q hlt hc h3) ku_J5_append_cf1ce (hS1 (X := fun z => zStr z.1 z.2.1 z.2.2 _ _ _) hS) (zrecvW C0 Wd zb6 (zE_10 zK396) rfl) zk_1013 rfl hl.1 rfl (Nat.le_of_ble_eq_true rfl) (by decide) (by decide) dJ4_append_15ec4_2 (z_kkr (fun r1 zMr1 zFr1 H locs hp Wd => ?_))
  obtain ⟨rfl, rfl, rfl⟩ := hp
  refine z_pop C0 rfl dJ4_append_15ec4_5 ?_
  refine z_aload_n C0 hl 0 rfl dJ4_append_15ec4_6 ?_
  exact z_aret C0 Wd hret hlk ⟨rfl, rfl, rfl⟩ dJ4_append_15ec4_7
