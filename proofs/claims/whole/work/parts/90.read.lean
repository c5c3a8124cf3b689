/-! the model's reader -/
theorem z_ldcr {g : zG} {A : Nat → Prop} {p : Program} {l : Launch} {e : Env} {R : Room} {s : State} {m : MethodId} {args : Array Value} {below : List Frame} {meth : Method} {c : Code} {H : Heap} {locs : List Loc} {cells slots : Nat} {Q : State → Prop} {cc : ByteArray} {nL : Nat} {own : String} {pc : Nat} {ls : Array Slot} {rest : List Value} (C0 : zC g A p s m args c cc nL own) {tx : String} {index a : Nat} (hZ : vk_R own index tx a s) (hdg : decode cc pc = .ok (.ldc index, 2)) (k : W p l e R s m args below meth c H locs cells slots Q (F0 m (pc + 2) ls (.ref a :: rest))) : W p l e R s m args below meth c H locs cells slots Q (F0 m pc ls rest) :=
  va_ldcS C0.1.1 C0.1.2.1 C0.1.2.2.2.1 hZ hdg k
theorem zsp_out {M : zMem} {q i j : Int} (h : ¬ (i = 398 ∧ (j = 13 ∨ j = 14))) : zsp M q i j = M i j := by
  unfold zsp
  rw [zu_ne (by omega), zu_ne (by omega)]

theorem ztl_40 : ztl (40, 80, [116, 117, 110, 110, 101, 108, 32]) = [116, 117, 110, 110, 101, 108, 32] := by decide +kernel
theorem ztl_41 : ztl (41, 81, [45]) = [45] := by decide +kernel
theorem ztl_42 : ztl (42, 82, [42]) = [42] := by decide +kernel
theorem ztl_43 : ztl (43, 83, [116, 105, 99, 107, 32]) = [116, 105, 99, 107, 32] := by decide +kernel
theorem ztl_44 : ztl (44, 84, [115, 108, 101, 101, 112, 32]) = [115, 108, 101, 101, 112, 32] := by decide +kernel
theorem ztl_45 : ztl (45, 85, [115, 97, 121, 32]) = [115, 97, 121, 32] := by decide +kernel
theorem ztl_46 : ztl (46, 86, [62]) = [62] := by decide +kernel
theorem ztl_47 : ztl (47, 87, [61]) = [61] := by decide +kernel
theorem ztl_48 : ztl (48, 88, [104, 97, 114, 101, 32]) = [104, 97, 114, 101, 32] := by decide +kernel
theorem ztl_49 : ztl (49, 89, [108, 105, 115, 116, 101, 110, 32]) = [108, 105, 115, 116, 101, 110, 32] := by decide +kernel
theorem ztl_50 : ztl (50, 90, [103, 111, 32]) = [103, 111, 32] := by decide +kernel
theorem ztl_51 : ztl (51, 91, [64]) = [64] := by decide +kernel
theorem ztl_52 : ztl (52, 92, [99, 104, 97, 109, 98, 101, 114]) = [99, 104, 97, 109, 98, 101, 114] := by decide +kernel
theorem ztl_20 : ztl (20, 60, [99, 104, 97, 109, 98, 101, 114]) = [99, 104, 97, 109, 98, 101, 114] := by decide +kernel
theorem ztl_21 : ztl (21, 61, [116, 117, 110, 110, 101, 108, 32, 35, 45, 35, 42, 35]) = [116, 117, 110, 110, 101, 108, 32, 35, 45, 35, 42, 35] := by decide +kernel
theorem ztl_22 : ztl (22, 62, [104, 97, 114, 101, 32, 35]) = [104, 97, 114, 101, 32, 35] := by decide +kernel
theorem ztl_23 : ztl (23, 63, [115, 97, 121, 32, 35, 62, 35, 61, 37]) = [115, 97, 121, 32, 35, 62, 35, 61, 37] := by decide +kernel
theorem ztl_24 : ztl (24, 64, [108, 105, 115, 116, 101, 110, 32, 35]) = [108, 105, 115, 116, 101, 110, 32, 35] := by decide +kernel
theorem ztl_25 : ztl (25, 65, [115, 108, 101, 101, 112, 32, 35]) = [115, 108, 101, 101, 112, 32, 35] := by decide +kernel
theorem ztl_26 : ztl (26, 66, [103, 111, 32, 35, 64, 35]) = [103, 111, 32, 35, 64, 35] := by decide +kernel
theorem ztl_27 : ztl (27, 67, [116, 105, 99, 107, 32, 37]) = [116, 105, 99, 107, 32, 37] := by decide +kernel
/-- the kind of the command at a -/
def zkn (T : Int → Int) (n a : Int) : Int := if zbh T n a = 116 then (if zbh T n (a + 1) = 117 then 1 else 7) else if zbh T n a = 115 then (if zbh T n (a + 1) = 108 then 5 else 3) else if zbh T n a = 104 then 2 else if zbh T n a = 108 then 4 else if zbh T n a = 103 then 6 else 0
def zkc (k : Int) : Int := if k = 1 then 117 else if k = 2 then 104 else if k = 3 then 115 else if k = 4 then 108 else if k = 5 then 122 else if k = 6 then 103 else if k = 7 then 116 else 99
def zkl (k : Int) : List Int := if k = 1 then [116, 117, 110, 110, 101, 108, 32, 35, 45, 35, 42, 35] else if k = 2 then [104, 97, 114, 101, 32, 35] else if k = 3 then [115, 97, 121, 32, 35, 62, 35, 61, 37] else if k = 4 then [108, 105, 115, 116, 101, 110, 32, 35] else if k = 5 then [115, 108, 101, 101, 112, 32, 35] else if k = 6 then [103, 111, 32, 35, 64, 35] else if k = 7 then [116, 105, 99, 107, 32, 37] else [99, 104, 97, 109, 98, 101, 114]
def zkm (k : Int) : Int := if k = 1 then 3 else if k = 2 then 1 else if k = 3 then 3 else if k = 4 then 1 else if k = 5 then 1 else if k = 6 then 2 else if k = 7 then 1 else 0
/-- the signs before the j-th number of a form -/
def zkp (k j : Int) : List Int := if (k, j) = (1, 0) then [116, 117, 110, 110, 101, 108, 32] else if (k, j) = (1, 1) then [116, 117, 110, 110, 101, 108, 32, 35, 45] else if (k, j) = (1, 2) then [116, 117, 110, 110, 101, 108, 32, 35, 45, 35, 42] else if (k, j) = (2, 0) then [104, 97, 114, 101, 32] else if (k, j) = (3, 0) then [115, 97, 121, 32] else if (k, j) = (3, 1) then [115, 97, 121, 32, 35, 62] else if (k, j) = (3, 2) then [115, 97, 121, 32, 35, 62, 35, 61] else if (k, j) = (4, 0) then [108, 105, 115, 116, 101, 110, 32] else if (k, j) = (5, 0) then [115, 108, 101, 101, 112, 32] else if (k, j) = (6, 0) then [103, 111, 32] else if (k, j) = (6, 1) then [103, 111, 32, 35, 64] else if (k, j) = (7, 0) then [116, 105, 99, 107, 32] else []
def zkg (k j : Int) : Int := if k = 3 ∧ j = 2 then 37 else if k = 7 then 37 else 35
def zEn (T : Int → Int) (n a : Int) : Int := zfw T n (zkl (zkn T n a)) a
/-- the j-th number of the command at a -/
def zka (T : Int → Int) (n a j : Int) : Int := znv T n (zkg (zkn T n a) j) (zfw T n (zkp (zkn T n a) j) a)
theorem zst_ge {T : Int → Int} {n c q : Int} (h : 0 ≤ zst T n c q) : 0 ≤ q := by
  by_cases a : q < 0
  · rw [zst_lt a] at h
    exact h
  · omega
theorem zfw_ge {T : Int → Int} {n : Int} {r : List Int} {q : Int} (h : 0 ≤ zfw T n r q) : 0 ≤ q := by
  by_cases a : q < 0
  · rw [zfw_lt r a] at h
    exact h
  · omega
theorem zst_in {T : Int → Int} {n c q : Int} (h : 0 ≤ zps q ∧ zps q ≤ n) : 0 ≤ zps (zst T n c q) ∧ zps (zst T n c q) ≤ n := by
  have := zst_bd (T := T) (c := c) h.1 h.2
  omega
theorem zfw_in {T : Int → Int} {n : Int} (r : List Int) {q : Int} (h : 0 ≤ zps q ∧ zps q ≤ n) : 0 ≤ zps (zfw T n r q) ∧ zps (zfw T n r q) ≤ n := by
  have := zfw_bd (T := T) r h.1 h.2
  omega
/-- what the model's readCommand brings at a, as its command k -/
def zRC (T : Int → Int) (n a k : Int) (M M' : zMem) : Prop := zPS T n (zEn T n a) M' ∧ M' 398 18 = k + 1 ∧ M' 407 (4 * k) = zkc (zkn T n a) ∧ (0 ≤ zEn T n a → ∀ j, 0 ≤ j → j < zkm (zkn T n a) → M' 407 (4 * k + 1 + j) = zka T n a j) ∧ (∀ i, i ≠ 398 → i ≠ 407 → M' i = M i) ∧ (∀ j, j ≠ 13 → j ≠ 14 → j ≠ 18 → M' 398 j = M 398 j) ∧ ∀ j, (j < 4 * k ∨ 4 * k + 4 ≤ j) → M' 407 j = M 407 j
theorem zsp_rw {M : zMem} {q i : Int} (h : i ≠ 398) : zsp M q i = M i := funext fun j => zsp_row h j

theorem kv_X12_behind : zKV yX12_behind cX12_behind 2 (some .int) "DrumWarrenModel" 1 := ⟨zk_2019, zk_2018, zk_58, zk_80, by decide, by decide, by decide +kernel⟩
set_option maxHeartbeats 4000000 in
set_option maxRecDepth 100000 in
theorem ct_X12_behind (l : Launch) (g : zG) (ad : Int → Nat) (zM0 zF0 : zMem) (T : Int → Int) (n q0 : Int) (x0 : Int) (hx0 : zR x0) (hP : zPS T n q0 zM0) (h0 : 0 ≤ x0 ∧ x0 < 60) (hT : ∀ j, 0 ≤ T j ∧ T j < 65536) : zMt l yX12_behind cX12_behind 2 (some .int) 0 0 0 g 410 ad [.ref (ad 398), .int (zI x0)] zM0 zF0 (zPi (fun r M' F' => (zbh T n (zps q0 + x0)) = r ∧ zM0 = M' ∧ zF0 = F')) := by
  refine zMt.of "DrumWarrenModel" rfl (by decide +kernel) (Nat.le_of_ble_eq_true rfl) (fun {p e s m args below meth c ls} C0 Wd hl hret hlk hin => ?_)
  have hl : lv_has ls 2 [(0, .ref (ad 398)), (1, .int (zI x0))] := hl
  obtain ⟨hP1, hP2, hP3, hP4, hP5, hP6⟩ := id hP
  refine z_aload_n C0 hl 0 rfl dX12_behind_0 ?_
  refine zg_9_13 C0 Wd zN398 zK398 zk_1625 dX12_behind_1 ?_
  obtain ⟨he2, hz1⟩ : (zM0 398 13) = (zps q0) ∧ zR (zps q0) := (fun q => ⟨q, q ▸ Wd.rm _ _⟩) hP.2.2.2.1
  refine z_top (congrArg zI he2) ?_
  clear he2
  refine z_iload_n C0 hl 1 rfl dX12_behind_4 ?_
  refine z_iadd C0 dX12_behind_5 ?_
  refine z_aload_n C0 hl 0 rfl dX12_behind_6 ?_
  refine zg_9_12 C0 Wd zN398 zK398 zk_1624 dX12_behind_7 ?_
  obtain ⟨he4, hz3⟩ : (zM0 398 12) = n ∧ zR n := (fun q => ⟨q, q ▸ Wd.rm _ _⟩) hP.2.1
  refine z_top (congrArg zI he4) ?_
  clear he4
  refine z_icmp_ge C0 (tgt := 27) (by have q0 := hx0.1; have p0 := hx0.2; have q1 := hz1.1; have p1 := hz1.2; exact zR_mk (by omega) (by omega)) hz3 dX12_behind_10 (by decide) (fun c5 => ?_) (fun c5 => ?_)
  · skip
    refine z_iconst C0 dX12_behind_27 ?_
    exact z_iret C0 Wd hret hlk (zR_mk (by decide) (by decide)) ⟨if_neg (by omega), rfl, rfl⟩ dX12_behind_28
  · skip
    refine z_aload_n C0 hl 0 rfl dX12_behind_13 ?_
    refine zg_9_11 C0 Wd zN398 zK398 zk_1623 dX12_behind_14 ?_
    refine z_aload_n C0 hl 0 rfl dX12_behind_17 ?_
    refine zg_9_13 C0 Wd zN398 zK398 zk_1625 dX12_behind_18 ?_
    obtain ⟨he7, hz6⟩ : (zM0 398 13) = (zps q0) ∧ zR (zps q0) := (fun q => ⟨q, q ▸ Wd.rm _ _⟩) hP.2.2.2.1
    refine z_top (congrArg zI he7) ?_
    clear he7
    refine z_iload_n C0 hl 1 rfl dX12_behind_21 ?_
    refine z_iadd C0 dX12_behind_22 ?_
    refine z_cald C0 Wd zN406 zK406 zL406 (by omega) (by omega) (by decide) dX12_behind_23 ?_
    obtain ⟨he9, hz8⟩ : (zM0 406 ((zps q0) + x0)) = (T ((zps q0) + x0)) ∧ zR (T ((zps q0) + x0)) := (fun q => ⟨q, q ▸ Wd.rm _ _⟩) (congrFun hP.1 _)
    refine z_top (congrArg zI he9) ?_
    clear he9
    refine z_goto C0 (tgt := 28) dX12_behind_24 (by decide) ?_
    exact z_iret C0 Wd hret hlk hz8 ⟨if_pos (by omega), rfl, rfl⟩ dX12_behind_28
theorem kv_X12_isDigit : zKV yX12_isDigit cX12_isDigit 1 (some .boolean) "DrumWarrenModel" 0 := ⟨zk_2038, zk_2037, zk_62, zk_80, by decide, by decide, by decide +kernel⟩
set_option maxHeartbeats 4000000 in
set_option maxRecDepth 100000 in
theorem ct_X12_isDigit (l : Launch) (g : zG) (ad : Int → Nat) (zM0 zF0 : zMem) (T : Int → Int) (n q0 : Int) (hP : zPS T n q0 zM0) (hT : ∀ j, 0 ≤ T j ∧ T j < 65536) : zMt l yX12_isDigit cX12_isDigit 1 (some .boolean) 1 0 0 g 410 ad [.ref (ad 398)] zM0 zF0 (zPi (fun r M' F' => zb (0 ≤ q0 ∧ zdg T n q0) = r ∧ zM0 = M' ∧ zF0 = F')) := by
  refine zMt.of "DrumWarrenModel" rfl (by decide +kernel) (Nat.le_of_ble_eq_true rfl) (fun {p e s m args below meth c ls} C0 Wd hl hret hlk hin => ?_)
  have hl : lv_has ls 1 [(0, .ref (ad 398))] := hl
  obtain ⟨hP1, hP2, hP3, hP4, hP5, hP6⟩ := id hP
  refine z_aload_n C0 hl 0 rfl dX12_isDigit_0 ?_
  refine zg_9_14 C0 Wd zN398 zK398 zk_1626 dX12_isDigit_1 ?_
  obtain ⟨he2, hz1⟩ : (zM0 398 14) = (zb (q0 < 0)) ∧ zR (zb (q0 < 0)) := (fun q => ⟨q, q ▸ Wd.rm _ _⟩) hP.2.2.2.2.1
  refine z_top (congrArg zI he2) ?_
  clear he2
  refine z_if_ne_b C0 (tgt := 26) dX12_isDigit_4 (by decide) (fun c3 => ?_) (fun c3 => ?_)
  · skip
    refine z_iconst C0 dX12_isDigit_26 ?_
    exact z_zret C0 Wd hret hlk (by decide) ⟨zb_f (fun z => by first | exact absurd z.1 (by omega) | exact absurd (zdg_bh.mpr z.2) (by assumption)), rfl, rfl⟩ dX12_isDigit_27
  · skip
    refine z_aload_n C0 hl 0 rfl dX12_isDigit_7 ?_
    refine z_iconst C0 dX12_isDigit_8 ?_
    refine z_invVi (As := [.int (zI 0)]) (rest := []) C0 Wd (ct_X12_behind l g ad zM0 zF0 T n q0 0 (zR_mk (by decide) (by decide)) hP (by omega) hT) kv_X12_behind zN398 (zE_9 zK398) rfl zk_2016 rfl hl.1 rfl (Nat.le_of_ble_eq_true rfl) (by decide) (by decide) dX12_isDigit_9 (fun r4 zMr4 zFr4 H locs hrr4 hp Wd => ?_)
    obtain ⟨rfl, rfl, rfl⟩ := hp
    have hbz : zps q0 + 0 = q0 := by rw [zps_nn (by omega)]; omega
    obtain ⟨he6, hbq⟩ : (zbh T n (zps q0 + 0)) = (zbh T n q0) ∧ zR (zbh T n q0) := (fun q => ⟨q, q ▸ hrr4⟩) (congrArg (zbh T n) hbz)
    refine z_top (congrArg zI he6) ?_
    clear he6
    refine z_bipush C0 dX12_isDigit_12 (by decide) ?_
    refine z_bipush C0 dX12_isDigit_14 (by decide) ?_
    refine z_invSi (As := [.int (zI (zbh T n q0)), .int (zI 48), .int (zI 57)]) (rest := []) C0 Wd (ct_X12_in l g ad zM0 zF0 (zbh T n q0) hbq 48 (zR_mk (by decide) (by decide)) 57 (zR_mk (by decide) (by decide))) kv_X12_in zk_1707 rfl hl.1 rfl (Nat.le_of_ble_eq_true rfl) (by decide) (by decide) dX12_isDigit_16 (fun r7 zMr7 zFr7 H locs hrr7 hp Wd => ?_)
    obtain ⟨rfl, rfl, rfl⟩ := hp
    refine z_if_eq_b C0 (tgt := 26) dX12_isDigit_19 (by decide) (fun c9 => ?_) (fun c9 => ?_)
    · skip
      refine z_iconst C0 dX12_isDigit_26 ?_
      exact z_zret C0 Wd hret hlk (by decide) ⟨zb_f (fun z => by first | exact absurd z.1 (by omega) | exact absurd (zdg_bh.mpr z.2) (by assumption)), rfl, rfl⟩ dX12_isDigit_27
    · skip
      refine z_iconst C0 dX12_isDigit_22 ?_
      refine z_goto C0 (tgt := 27) dX12_isDigit_23 (by decide) ?_
      exact z_zret C0 Wd hret hlk (by decide) ⟨zb_t ⟨by omega, zdg_bh.mp (by assumption)⟩, rfl, rfl⟩ dX12_isDigit_27
theorem kv_X12_skip : zKV yX12_skip cX12_skip 3 none "DrumWarrenModel" 1 := ⟨zk_2028, zk_2027, zk_60, zk_80, by decide, by decide, by decide +kernel⟩
set_option maxHeartbeats 4000000 in
set_option maxRecDepth 100000 in
theorem ct_X12_skip (l : Launch) (g : zG) (ad : Int → Nat) (zM0 zF0 : zMem) (T : Int → Int) (n q0 : Int) (q : Int × Int × List Int32) (hq : q ∈ zTxt) (lq : List Int) (hlz : ztl q = lq) (hP : zPS T n q0 zM0) (hT : ∀ j, 0 ≤ T j ∧ T j < 65536) (hns : ∀ j : Nat, j < q.2.2.length → ztx q (j : Int) ≠ 35 ∧ ztx q (j : Int) ≠ 37) : zMt l yX12_skip cX12_skip 3 none 4 0 0 g 410 ad [.ref (ad 398), .ref (g.2.2.2 q.1)] zM0 zF0 (zPv (fun M' F' => (zsp zM0 (zfw T n lq q0)) = M' ∧ zF0 = F')) := by
  refine zMt.of "DrumWarrenModel" rfl (by decide +kernel) (Nat.le_of_ble_eq_true rfl) (fun {p e s m args below meth c ls} C0 Wd hl hret hlk hin => ?_)
  have hl : lv_has ls 3 [(0, .ref (ad 398)), (1, .ref (g.2.2.2 q.1))] := hl
  obtain ⟨hP1, hP2, hP3, hP4, hP5, hP6⟩ := id hP
  have hlq := (ztx_all q hq).1
  refine z_iconst C0 dX12_skip_0 ?_
  refine z_istore_n C0 hl [(2, .int (zI 0)), (0, .ref (ad 398)), (1, .ref (g.2.2.2 q.1))] (by decide) rfl dX12_skip_1 (fun ls hl => ?_)
  have aft2 : ∀ (k2 : Nat) (hk2 : (k2 : Int) ≤ (q.2.2.length : Int)) (M2 : zMem) (hw : M2 = zsp zM0 (zfs T n (ztx q) k2 q0)) (hx2 : zfs T n (ztx q) q.2.2.length q0 = (zfs T n (ztx q) k2 q0)) (H : Heap) (locs : List Loc) (ls : Array Slot) (Wd : zW g (zA 410 ad s.heap.size) s.heap 410 ad M2 zF0 H locs) (hl : lv_has ls 3 [(0, .ref (ad 398)), (1, .ref (g.2.2.2 q.1)), (2, .int (zI (k2 : Int)))]), W p l e (zrm 4 0 0) s m args below meth c H locs 0 0 (zMQ below g 410 ad (zPv (fun M' F' => (zsp zM0 (zfw T n lq q0)) = M' ∧ zF0 = F')) args s 0 0) (F0 m 66 ls []) := by
    intro k2 hk2 M2 hw hx2 H locs ls Wd hl
    replace hl : lv_has ls 3 [(0, .ref (ad 398)), (1, .ref (g.2.2.2 q.1))] := lv_sub hl [0, 1] rfl
    exact z_vret C0 Wd hret hlk ⟨by rw [hw, ← hx2, zfs_all, hlz], rfl⟩ dX12_skip_66
  have lp2 : ∀ (d2 k2 : Nat) (hk2 : (k2 : Int) + d2 = (q.2.2.length : Int)) (M2 : zMem) (hw : M2 = zsp zM0 (zfs T n (ztx q) k2 q0)) (H : Heap) (locs : List Loc) (ls : Array Slot) (Wd : zW g (zA 410 ad s.heap.size) s.heap 410 ad M2 zF0 H locs) (hl : lv_has ls 3 [(0, .ref (ad 398)), (1, .ref (g.2.2.2 q.1)), (2, .int (zI (k2 : Int)))]), W p l e (zrm 4 0 0) s m args below meth c H locs 0 0 (zMQ below g 410 ad (zPv (fun M' F' => (zsp zM0 (zfw T n lq q0)) = M' ∧ zF0 = F')) args s 0 0) (F0 m 2 ls []) := by
    intro d2
    induction d2 with
    | zero =>
      intro k2 hk2 M2 hw H locs ls Wd hl
      have hbd := zfs_bd (T := T) (n := n) (f := ztx q) k2 (q := q0) hP6.1 hP6.2
      have hPk : zPS T n (zfs T n (ztx q) k2 q0) M2 := by rw [hw]; exact zPS_sp hP ⟨by omega, hbd.2⟩
      have hA : (q.2.2.length : Int) ≤ (k2 : Int) → zfs T n (ztx q) q.2.2.length q0 = (zfs T n (ztx q) k2 q0) := fun h => by rw [show q.2.2.length = k2 by omega]
      have hB : (zfs T n (ztx q) k2 q0) < 0 → zfs T n (ztx q) q.2.2.length q0 = (zfs T n (ztx q) k2 q0) := fun h => zfs_stuck h _ (by omega)
      have htb := ztx_b hq (k2 : Int)
      refine z_iload_n C0 hl 2 rfl dX12_skip_2 ?_
      refine z_aload_n C0 hl 1 rfl dX12_skip_3 ?_
      refine z_invO (As := []) (rest := [.int (zI (k2 : Int))]) C0 Wd (ct_J0_length_8abf5_c l g ad M2 zF0 q hq) kv_J0_length_8abf5 (zrecvO C0 Wd (zc_x C0 hq).1) zk_2029 rfl hl.1 rfl (Nat.le_of_ble_eq_true rfl) (by decide) (by decide) dX12_skip_4 (z_kki (fun r1 zMr1 zFr1 H locs hrr1 hp Wd => ?_))
      obtain ⟨rfl, rfl, rfl⟩ := hp
      refine z_icmp_ge C0 (tgt := 66) (zR_mk (by omega) (by omega)) hrr1 dX12_skip_7 (by decide) (fun c3 => ?_) (fun c3 => ?_)
      · skip
        first | exact aft2 k2 (by omega) M2 hw (by first | assumption | omega) _ _ _ Wd (lv_sub hl [0, 1, 2] rfl) | (exfalso; omega)
      · skip
        exfalso; omega
    | succ d2 ih2 =>
      intro k2 hk2 M2 hw H locs ls Wd hl
      have hbd := zfs_bd (T := T) (n := n) (f := ztx q) k2 (q := q0) hP6.1 hP6.2
      have hPk : zPS T n (zfs T n (ztx q) k2 q0) M2 := by rw [hw]; exact zPS_sp hP ⟨by omega, hbd.2⟩
      have hA : (q.2.2.length : Int) ≤ (k2 : Int) → zfs T n (ztx q) q.2.2.length q0 = (zfs T n (ztx q) k2 q0) := fun h => by rw [show q.2.2.length = k2 by omega]
      have hB : (zfs T n (ztx q) k2 q0) < 0 → zfs T n (ztx q) q.2.2.length q0 = (zfs T n (ztx q) k2 q0) := fun h => zfs_stuck h _ (by omega)
      have htb := ztx_b hq (k2 : Int)
      refine z_iload_n C0 hl 2 rfl dX12_skip_2 ?_
      refine z_aload_n C0 hl 1 rfl dX12_skip_3 ?_
      refine z_invO (As := []) (rest := [.int (zI (k2 : Int))]) C0 Wd (ct_J0_length_8abf5_c l g ad M2 zF0 q hq) kv_J0_length_8abf5 (zrecvO C0 Wd (zc_x C0 hq).1) zk_2029 rfl hl.1 rfl (Nat.le_of_ble_eq_true rfl) (by decide) (by decide) dX12_skip_4 (z_kki (fun r4 zMr4 zFr4 H locs hrr4 hp Wd => ?_))
      obtain ⟨rfl, rfl, rfl⟩ := hp
      refine z_icmp_ge C0 (tgt := 66) (zR_mk (by omega) (by omega)) hrr4 dX12_skip_7 (by decide) (fun c6 => ?_) (fun c6 => ?_)
      · skip
        first | exact aft2 k2 (by omega) M2 hw (by first | assumption | omega) _ _ _ Wd (lv_sub hl [0, 1, 2] rfl) | (exfalso; omega)
      · skip
        refine z_aload_n C0 hl 0 rfl dX12_skip_10 ?_
        refine zg_9_14 C0 Wd zN398 zK398 zk_1626 dX12_skip_11 ?_
        obtain ⟨he8, hz7⟩ : (M2 398 14) = (zb ((zfs T n (ztx q) k2 q0) < 0)) ∧ zR (zb ((zfs T n (ztx q) k2 q0) < 0)) := (fun q => ⟨q, q ▸ Wd.rm _ _⟩) hPk.2.2.2.2.1
        refine z_top (congrArg zI he8) ?_
        clear he8
        refine z_if_ne_b C0 (tgt := 66) dX12_skip_14 (by decide) (fun c9 => ?_) (fun c9 => ?_)
        · skip
          first | exact aft2 k2 (by omega) M2 hw (by first | assumption | omega) _ _ _ Wd (lv_sub hl [0, 1, 2] rfl) | (exfalso; omega)
        · skip
          refine z_aload_n C0 hl 0 rfl dX12_skip_17 ?_
          refine z_aload_n C0 hl 0 rfl dX12_skip_18 ?_
          refine z_iconst C0 dX12_skip_19 ?_
          refine z_invVi (As := [.int (zI 0)]) (rest := [.ref (ad 398)]) C0 Wd (ct_X12_behind l g ad M2 zF0 T n (zfs T n (ztx q) k2 q0) 0 (zR_mk (by decide) (by decide)) hPk (by omega) hT) kv_X12_behind zN398 (zE_9 zK398) rfl zk_2016 rfl hl.1 rfl (Nat.le_of_ble_eq_true rfl) (by decide) (by decide) dX12_skip_20 (fun r10 zMr10 zFr10 H locs hrr10 hp Wd => ?_)
          obtain ⟨rfl, rfl, rfl⟩ := hp
          have hbz : zps (zfs T n (ztx q) k2 q0) + 0 = (zfs T n (ztx q) k2 q0) := by rw [zps_nn (by omega)]; omega
          obtain ⟨he12, hbq⟩ : (zbh T n (zps (zfs T n (ztx q) k2 q0) + 0)) = (zbh T n (zfs T n (ztx q) k2 q0)) ∧ zR (zbh T n (zfs T n (ztx q) k2 q0)) := (fun q => ⟨q, q ▸ hrr10⟩) (congrArg (zbh T n) hbz)
          refine z_top (congrArg zI he12) ?_
          clear he12
          refine z_aload_n C0 hl 1 rfl dX12_skip_23 ?_
          refine z_iload_n C0 hl 2 rfl dX12_skip_24 ?_
          refine z_invO (As := [.int (zI (k2 : Int))]) (rest := [.int (zI (zbh T n (zfs T n (ztx q) k2 q0))), .ref (ad 398)]) C0 Wd (ct_J0_charAt_5068e_c l g ad M2 zF0 q hq (k2 : Int) (zR_mk (by omega) (by omega)) (by omega)) kv_J0_charAt_5068e (zrecvO C0 Wd (zc_x C0 hq).1) zk_2030 rfl hl.1 rfl (Nat.le_of_ble_eq_true rfl) (by decide) (by decide) dX12_skip_25 (z_kki (fun r13 zMr13 zFr13 H locs hrr13 hp Wd => ?_))
          obtain ⟨rfl, rfl, rfl⟩ := hp
          refine z_icmp_eq C0 (tgt := 35) hbq hrr13 dX12_skip_28 (by decide) (fun c15 => ?_) (fun c15 => ?_)
          · skip
            refine z_iconst C0 dX12_skip_35 ?_
            refine zp_9_14 C0 Wd zN398 zK398 (by omega) zk_1626 dX12_skip_36 (fun H locs Wd => ?_)
            refine z_aload_n C0 hl 0 rfl dX12_skip_39 ?_
            refine z_dup C0 rfl dX12_skip_40 ?_
            refine zg_9_13 C0 Wd zN398 zK398 zk_1625 dX12_skip_41 ?_
            obtain ⟨he17, hz16⟩ : ((zu M2 398 14 0) 398 13) = (zfs T n (ztx q) k2 q0) ∧ zR (zfs T n (ztx q) k2 q0) := (fun q => ⟨q, q ▸ Wd.rm _ _⟩) ((zu_ne (by omega)).trans (hPk.2.2.2.1.trans (zps_nn (by omega))))
            refine z_top (congrArg zI he17) ?_
            clear he17
            refine z_aload_n C0 hl 0 rfl dX12_skip_44 ?_
            refine zg_9_14 C0 Wd zN398 zK398 zk_1626 dX12_skip_45 ?_
            obtain ⟨he20, hz18⟩ : ((zu M2 398 14 0) 398 14) = 0 ∧ zR 0 := (fun q => ⟨q, q ▸ Wd.rm _ _⟩) (zu_same _ _ _ _)
            refine z_top (congrArg zI he20) ?_
            clear he20
            refine z_if_eq C0 (tgt := 55) (zR_mk (by decide) (by decide)) dX12_skip_48 (by decide) (fun _ => ?_) (fun h => absurd h (by decide))
            refine z_iconst C0 dX12_skip_55 ?_
            refine z_iadd C0 dX12_skip_56 ?_
            refine zp_9_13 C0 Wd zN398 zK398 (by have q0 := hz16.1; have p0 := hz16.2; exact zR_mk (by omega) (by omega)) zk_1625 dX12_skip_57 (fun H locs Wd => ?_)
            refine z_iinc C0 hl 2 (t := (k2 : Int)) (u := ((k2 : Int) + 1)) rfl (by omega) [(2, .int (zI ((k2 : Int) + 1))), (0, .ref (ad 398)), (1, .ref (g.2.2.2 q.1))] (by decide) rfl dX12_skip_60 (fun ls hl => ?_)
            refine z_goto C0 (tgt := 2) dX12_skip_63 (by decide) ?_
            exact ih2 (k2 + 1) (by omega) (zu (zu M2 398 14 0) 398 13 ((zfs T n (ztx q) k2 q0) + 1)) (by rw [hw]; show _ = zsp zM0 (zst T n (ztx q (k2 : Int)) (zfs T n (ztx q) k2 q0)); rw [zst_s1 (by omega) (hns k2 (by omega)).1 (hns k2 (by omega)).2 ((zbh_is (by omega)).mp (by assumption))]; exact (zsp_of ((zu_same _ _ _ _).trans (by first | exact (zps_nn (by omega)).symm | (rw [zps_nn (by omega)]; omega))) ((zu_ne (by omega)).trans ((zu_same _ _ _ _).trans (zb_f (by omega)).symm)) (fun i j h => by rw [zu_ne (by omega), zu_ne (by omega)]; exact zsp_out h)).symm) _ _ _ Wd (lv_sub hl [1, 2, 0] rfl)
          · skip
            refine z_iconst C0 dX12_skip_31 ?_
            refine z_goto C0 (tgt := 36) dX12_skip_32 (by decide) ?_
            refine zp_9_14 C0 Wd zN398 zK398 (by omega) zk_1626 dX12_skip_36 (fun H locs Wd => ?_)
            refine z_aload_n C0 hl 0 rfl dX12_skip_39 ?_
            refine z_dup C0 rfl dX12_skip_40 ?_
            refine zg_9_13 C0 Wd zN398 zK398 zk_1625 dX12_skip_41 ?_
            obtain ⟨he23, hz22⟩ : ((zu M2 398 14 1) 398 13) = (zfs T n (ztx q) k2 q0) ∧ zR (zfs T n (ztx q) k2 q0) := (fun q => ⟨q, q ▸ Wd.rm _ _⟩) ((zu_ne (by omega)).trans (hPk.2.2.2.1.trans (zps_nn (by omega))))
            refine z_top (congrArg zI he23) ?_
            clear he23
            refine z_aload_n C0 hl 0 rfl dX12_skip_44 ?_
            refine zg_9_14 C0 Wd zN398 zK398 zk_1626 dX12_skip_45 ?_
            obtain ⟨he26, hz24⟩ : ((zu M2 398 14 1) 398 14) = 1 ∧ zR 1 := (fun q => ⟨q, q ▸ Wd.rm _ _⟩) (zu_same _ _ _ _)
            refine z_top (congrArg zI he26) ?_
            clear he26
            refine z_if_eq C0 (tgt := 55) (zR_mk (by decide) (by decide)) dX12_skip_48 (by decide) (fun h => absurd h (by decide)) (fun _ => ?_)
            refine z_iconst C0 dX12_skip_51 ?_
            refine z_goto C0 (tgt := 56) dX12_skip_52 (by decide) ?_
            refine z_iadd C0 dX12_skip_56 ?_
            refine zp_9_13 C0 Wd zN398 zK398 (by have q0 := hz22.1; have p0 := hz22.2; exact zR_mk (by omega) (by omega)) zk_1625 dX12_skip_57 (fun H locs Wd => ?_)
            refine z_iinc C0 hl 2 (t := (k2 : Int)) (u := ((k2 : Int) + 1)) rfl (by omega) [(2, .int (zI ((k2 : Int) + 1))), (0, .ref (ad 398)), (1, .ref (g.2.2.2 q.1))] (by decide) rfl dX12_skip_60 (fun ls hl => ?_)
            refine z_goto C0 (tgt := 2) dX12_skip_63 (by decide) ?_
            exact ih2 (k2 + 1) (by omega) (zu (zu M2 398 14 1) 398 13 ((zfs T n (ztx q) k2 q0) + 0)) (by rw [hw]; show _ = zsp zM0 (zst T n (ztx q (k2 : Int)) (zfs T n (ztx q) k2 q0)); rw [zst_s0 (by omega) (hns k2 (by omega)).1 (hns k2 (by omega)).2 (fun z => absurd ((zbh_is (by omega)).mpr z) (by assumption))]; exact (zsp_of ((zu_same _ _ _ _).trans (by rw [zps_ng (by omega)]; omega)) ((zu_ne (by omega)).trans ((zu_same _ _ _ _).trans (zb_t (by omega)).symm)) (fun i j h => by rw [zu_ne (by omega), zu_ne (by omega)]; exact zsp_out h)).symm) _ _ _ Wd (lv_sub hl [1, 2, 0] rfl)
  exact lp2 ((q.2.2.length : Int)).toNat 0 (by omega) zM0 (zPS_self hP).symm _ _ _ Wd (lv_sub hl [1, 2, 0] rfl)
theorem kv_X12_readNumber : zKV yX12_readNumber cX12_readNumber 4 (some .int) "DrumWarrenModel" 1 := ⟨zk_2034, zk_2033, zk_61, zk_80, by decide, by decide, by decide +kernel⟩
set_option maxHeartbeats 4000000 in
set_option maxRecDepth 100000 in
theorem ct_X12_readNumber_1 (l : Launch) (g : zG) (ad : Int → Nat) (zM0 zF0 : zMem) (T : Int → Int) (n q0 : Int) (x0 : Int) (hx0 : zR x0) (hP : zPS T n q0 zM0) (hT : ∀ j, 0 ≤ T j ∧ T j < 65536) (hx1 : x0 = 1) : zMt l yX12_readNumber cX12_readNumber 4 (some .int) 2 0 0 g 410 ad [.ref (ad 398), .int (zI x0)] zM0 zF0 (zPi (fun r M' F' => (if 0 ≤ zst T n 35 q0 then znv T n 35 q0 else 0) = r ∧ (zsp zM0 (zst T n 35 q0)) = M' ∧ zF0 = F')) := by
  refine zMt.of "DrumWarrenModel" rfl (by decide +kernel) (Nat.le_of_ble_eq_true rfl) (fun {p e s m args below meth c ls} C0 Wd hl hret hlk hin => ?_)
  have hl : lv_has ls 4 [(0, .ref (ad 398)), (1, .int (zI x0))] := hl
  obtain ⟨hP1, hP2, hP3, hP4, hP5, hP6⟩ := id hP
  refine z_aload_n C0 hl 0 rfl dX12_readNumber_0 ?_
  refine z_aload_n C0 hl 0 rfl dX12_readNumber_1 ?_
  refine zg_9_14 C0 Wd zN398 zK398 zk_1626 dX12_readNumber_2 ?_
  obtain ⟨he2, hz1⟩ : (zM0 398 14) = (zb (q0 < 0)) ∧ zR (zb (q0 < 0)) := (fun q => ⟨q, q ▸ Wd.rm _ _⟩) hP.2.2.2.2.1
  refine z_top (congrArg zI he2) ?_
  clear he2
  refine z_if_ne_b C0 (tgt := 15) dX12_readNumber_5 (by decide) (fun c3 => ?_) (fun c3 => ?_)
  · skip
    refine z_iconst C0 dX12_readNumber_15 ?_
    refine z_goto C0 (tgt := 20) dX12_readNumber_16 (by decide) ?_
    refine zp_9_14 C0 Wd zN398 zK398 (by omega) zk_1626 dX12_readNumber_20 (fun H locs Wd => ?_)
    have hPs4 : zPS T n q0 (zu zM0 398 14 1) := zPS_14 hP rfl (zb_t (by assumption)).symm
    refine z_iconst C0 dX12_readNumber_23 ?_
    refine z_istore_n C0 hl [(2, .int (zI 0)), (0, .ref (ad 398)), (1, .int (zI x0))] (by decide) rfl dX12_readNumber_24 (fun ls hl => ?_)
    refine z_iconst C0 dX12_readNumber_25 ?_
    refine z_istore_n C0 hl [(3, .int (zI 0)), (2, .int (zI 0)), (0, .ref (ad 398)), (1, .int (zI x0))] (by decide) rfl dX12_readNumber_26 (fun ls hl => ?_)
    refine z_iload_n C0 hl 0 rfl dX12_readNumber_27 ?_
    refine z_iload_n C0 hl 3 rfl dX12_readNumber_28 ?_
    refine z_icmp_ge C0 (tgt := 73) (zR_mk (by decide) (by decide)) hx0 dX12_readNumber_29 (by decide) (fun c5 => absurd c5 (by omega)) (fun c5 => ?_)
    refine z_aload_n C0 hl 2 rfl dX12_readNumber_32 ?_
    refine z_invVi (As := []) (rest := []) C0 Wd (ct_X12_isDigit l g ad (zu zM0 398 14 1) zF0 T n q0 hPs4 hT) kv_X12_isDigit zN398 (zE_9 zK398) rfl zk_2035 rfl hl.1 rfl (Nat.le_of_ble_eq_true rfl) (by decide) (by decide) dX12_readNumber_33 (fun r6 zMr6 zFr6 H locs hrr6 hp Wd => ?_)
    obtain ⟨rfl, rfl, rfl⟩ := hp
    refine z_if_eq_b C0 (tgt := 73) dX12_readNumber_36 (by decide) (fun c8 => ?_) (fun c8 => absurd c8 (fun z => absurd z.1 (by omega)))
    refine z_iload_n C0 hl 1 rfl dX12_readNumber_73 ?_
    have hz9 : zst T n 35 q0 = q0 := zst_lt (by assumption)
    exact z_iret C0 Wd hret hlk (zR_mk (by decide) (by decide)) ⟨(by rw [hz9, if_neg (by omega)]), (by rw [hz9]; exact zsp_of hPs4.2.2.2.1 hPs4.2.2.2.2.1 (fun i j h => by rw [zu_ne (by omega)])), rfl⟩ dX12_readNumber_74
  · skip
    refine z_aload_n C0 hl 0 rfl dX12_readNumber_8 ?_
    refine z_invVi (As := []) (rest := [.ref (ad 398)]) C0 Wd (ct_X12_isDigit l g ad zM0 zF0 T n q0 hP hT) kv_X12_isDigit zN398 (zE_9 zK398) rfl zk_2035 rfl hl.1 rfl (Nat.le_of_ble_eq_true rfl) (by decide) (by decide) dX12_readNumber_9 (fun r9 zMr9 zFr9 H locs hrr9 hp Wd => ?_)
    obtain ⟨rfl, rfl, rfl⟩ := hp
    refine z_if_ne_b C0 (tgt := 19) dX12_readNumber_12 (by decide) (fun c11 => ?_) (fun c11 => ?_)
    · skip
      refine z_iconst C0 dX12_readNumber_19 ?_
      refine zp_9_14 C0 Wd zN398 zK398 (by omega) zk_1626 dX12_readNumber_20 (fun H locs Wd => ?_)
      have hPs12 : zPS T n q0 (zu zM0 398 14 0) := zPS_14 hP rfl (zb_f (by omega)).symm
      refine z_iconst C0 dX12_readNumber_23 ?_
      refine z_istore_n C0 hl [(2, .int (zI 0)), (0, .ref (ad 398)), (1, .int (zI x0))] (by decide) rfl dX12_readNumber_24 (fun ls hl => ?_)
      refine z_iconst C0 dX12_readNumber_25 ?_
      refine z_istore_n C0 hl [(3, .int (zI 0)), (2, .int (zI 0)), (0, .ref (ad 398)), (1, .int (zI x0))] (by decide) rfl dX12_readNumber_26 (fun ls hl => ?_)
      refine z_iload_n C0 hl 0 rfl dX12_readNumber_27 ?_
      refine z_iload_n C0 hl 3 rfl dX12_readNumber_28 ?_
      refine z_icmp_ge C0 (tgt := 73) (zR_mk (by decide) (by decide)) hx0 dX12_readNumber_29 (by decide) (fun c13 => absurd c13 (by omega)) (fun c13 => ?_)
      refine z_aload_n C0 hl 2 rfl dX12_readNumber_32 ?_
      refine z_invVi (As := []) (rest := []) C0 Wd (ct_X12_isDigit l g ad (zu zM0 398 14 0) zF0 T n q0 hPs12 hT) kv_X12_isDigit zN398 (zE_9 zK398) rfl zk_2035 rfl hl.1 rfl (Nat.le_of_ble_eq_true rfl) (by decide) (by decide) dX12_readNumber_33 (fun r14 zMr14 zFr14 H locs hrr14 hp Wd => ?_)
      obtain ⟨rfl, rfl, rfl⟩ := hp
      refine z_if_eq_b C0 (tgt := 73) dX12_readNumber_36 (by decide) (fun c16 => absurd c16 (fun z => z ⟨by omega, c11.2⟩)) (fun c16 => ?_)
      have hdl17 := c11.2.1
      have hdv18 := c11.2.2
      refine z_bipush C0 dX12_readNumber_39 (by decide) ?_
      refine z_iload_n C0 hl 1 rfl dX12_readNumber_41 ?_
      refine z_imul C0 dX12_readNumber_42 ?_
      refine z_top (show zI (10 * 0) = zI 0 from rfl) ?_
      refine z_aload_n C0 hl 2 rfl dX12_readNumber_43 ?_
      refine zg_9_11 C0 Wd zN398 zK398 zk_1623 dX12_readNumber_44 ?_
      refine z_aload_n C0 hl 2 rfl dX12_readNumber_47 ?_
      refine zg_9_13 C0 Wd zN398 zK398 zk_1625 dX12_readNumber_48 ?_
      obtain ⟨he20, hz19⟩ : ((zu zM0 398 14 0) 398 13) = q0 ∧ zR q0 := (fun q => ⟨q, q ▸ Wd.rm _ _⟩) (hPs12.2.2.2.1.trans (zps_nn (by omega)))
      refine z_top (congrArg zI he20) ?_
      clear he20
      refine z_cald C0 Wd zN406 zK406 zL406 (by omega) (by omega) (by decide) dX12_readNumber_51 ?_
      obtain ⟨he22, hz21⟩ : ((zu zM0 398 14 0) 406 q0) = (T q0) ∧ zR (T q0) := (fun q => ⟨q, q ▸ Wd.rm _ _⟩) (congrFun hPs12.1 _)
      refine z_top (congrArg zI he22) ?_
      clear he22
      refine z_iadd C0 dX12_readNumber_52 ?_
      refine z_bipush C0 dX12_readNumber_53 (by decide) ?_
      refine z_isub C0 dX12_readNumber_55 ?_
      refine z_istore_n C0 hl [(2, .int (zI ((0 + (T q0)) - 48))), (3, .int (zI 0)), (0, .ref (ad 398)), (1, .int (zI x0))] (by decide) rfl dX12_readNumber_56 (fun ls hl => ?_)
      refine z_aload_n C0 hl 2 rfl dX12_readNumber_57 ?_
      refine z_dup C0 rfl dX12_readNumber_58 ?_
      refine zg_9_13 C0 Wd zN398 zK398 zk_1625 dX12_readNumber_59 ?_
      obtain ⟨he24, hz23⟩ : ((zu zM0 398 14 0) 398 13) = q0 ∧ zR q0 := (fun q => ⟨q, q ▸ Wd.rm _ _⟩) (hPs12.2.2.2.1.trans (zps_nn (by omega)))
      refine z_top (congrArg zI he24) ?_
      clear he24
      refine z_iconst C0 dX12_readNumber_62 ?_
      refine z_iadd C0 dX12_readNumber_63 ?_
      refine zp_9_13 C0 Wd zN398 zK398 (by have q0 := hz23.1; have p0 := hz23.2; exact zR_mk (by omega) (by omega)) zk_1625 dX12_readNumber_64 (fun H locs Wd => ?_)
      have hPs25 : zPS T n (q0 + 1) (zu (zu zM0 398 14 0) 398 13 (q0 + 1)) := zPS_13 hPs12 (by omega) (by omega) rfl
      refine z_iinc C0 hl 1 (t := 0) (u := 1) rfl (by omega) [(3, .int (zI 1)), (2, .int (zI ((0 + (T q0)) - 48))), (0, .ref (ad 398)), (1, .int (zI x0))] (by decide) rfl dX12_readNumber_67 (fun ls hl => ?_)
      refine z_goto C0 (tgt := 27) dX12_readNumber_70 (by decide) ?_
      refine z_iload_n C0 hl 0 rfl dX12_readNumber_27 ?_
      refine z_iload_n C0 hl 3 rfl dX12_readNumber_28 ?_
      refine z_icmp_ge C0 (tgt := 73) (zR_mk (by decide) (by decide)) hx0 dX12_readNumber_29 (by decide) (fun c26 => ?_) (fun c26 => absurd c26 (by omega))
      refine z_iload_n C0 hl 1 rfl dX12_readNumber_73 ?_
      have hz9 : zst T n 35 q0 = (q0 + 1) := zst_d (by omega) c11.2
      exact z_iret C0 Wd hret hlk (by have q0 := hz21.1; have p0 := hz21.2; exact zR_mk (by omega) (by omega)) ⟨(by rw [hz9, if_pos (by omega)]; unfold znv; rw [if_neg (fun z => absurd z.1 (by decide))]; omega), (by rw [hz9]; exact zsp_of hPs25.2.2.2.1 hPs25.2.2.2.2.1 (fun i j h => by rw [zu_ne (by omega), zu_ne (by omega)])), rfl⟩ dX12_readNumber_74
    · skip
      refine z_iconst C0 dX12_readNumber_15 ?_
      refine z_goto C0 (tgt := 20) dX12_readNumber_16 (by decide) ?_
      refine zp_9_14 C0 Wd zN398 zK398 (by omega) zk_1626 dX12_readNumber_20 (fun H locs Wd => ?_)
      have hPs27 : zPS T n (-1 - q0) (zu zM0 398 14 1) := zPS_14 hP (by rw [zps_ng (by omega), zps_nn (by omega)]) (zb_t (by omega)).symm
      refine z_iconst C0 dX12_readNumber_23 ?_
      refine z_istore_n C0 hl [(2, .int (zI 0)), (0, .ref (ad 398)), (1, .int (zI x0))] (by decide) rfl dX12_readNumber_24 (fun ls hl => ?_)
      refine z_iconst C0 dX12_readNumber_25 ?_
      refine z_istore_n C0 hl [(3, .int (zI 0)), (2, .int (zI 0)), (0, .ref (ad 398)), (1, .int (zI x0))] (by decide) rfl dX12_readNumber_26 (fun ls hl => ?_)
      refine z_iload_n C0 hl 0 rfl dX12_readNumber_27 ?_
      refine z_iload_n C0 hl 3 rfl dX12_readNumber_28 ?_
      refine z_icmp_ge C0 (tgt := 73) (zR_mk (by decide) (by decide)) hx0 dX12_readNumber_29 (by decide) (fun c28 => absurd c28 (by omega)) (fun c28 => ?_)
      refine z_aload_n C0 hl 2 rfl dX12_readNumber_32 ?_
      refine z_invVi (As := []) (rest := []) C0 Wd (ct_X12_isDigit l g ad (zu zM0 398 14 1) zF0 T n (-1 - q0) hPs27 hT) kv_X12_isDigit zN398 (zE_9 zK398) rfl zk_2035 rfl hl.1 rfl (Nat.le_of_ble_eq_true rfl) (by decide) (by decide) dX12_readNumber_33 (fun r29 zMr29 zFr29 H locs hrr29 hp Wd => ?_)
      obtain ⟨rfl, rfl, rfl⟩ := hp
      refine z_if_eq_b C0 (tgt := 73) dX12_readNumber_36 (by decide) (fun c31 => ?_) (fun c31 => absurd c31 (fun z => absurd z.1 (by omega)))
      refine z_iload_n C0 hl 1 rfl dX12_readNumber_73 ?_
      have hz9 : zst T n 35 q0 = (-1 - q0) := zst_d0 (by omega) (fun z => c11 ⟨by omega, z⟩)
      exact z_iret C0 Wd hret hlk (zR_mk (by decide) (by decide)) ⟨(by rw [hz9, if_neg (by omega)]), (by rw [hz9]; exact zsp_of hPs27.2.2.2.1 hPs27.2.2.2.2.1 (fun i j h => by rw [zu_ne (by omega)])), rfl⟩ dX12_readNumber_74
set_option maxHeartbeats 4000000 in
set_option maxRecDepth 100000 in
theorem ct_X12_readNumber_2 (l : Launch) (g : zG) (ad : Int → Nat) (zM0 zF0 : zMem) (T : Int → Int) (n q0 : Int) (x0 : Int) (hx0 : zR x0) (hP : zPS T n q0 zM0) (hT : ∀ j, 0 ≤ T j ∧ T j < 65536) (hx1 : x0 = 2) : zMt l yX12_readNumber cX12_readNumber 4 (some .int) 2 0 0 g 410 ad [.ref (ad 398), .int (zI x0)] zM0 zF0 (zPi (fun r M' F' => (if 0 ≤ zst T n 37 q0 then znv T n 37 q0 else 0) = r ∧ (zsp zM0 (zst T n 37 q0)) = M' ∧ zF0 = F')) := by
  refine zMt.of "DrumWarrenModel" rfl (by decide +kernel) (Nat.le_of_ble_eq_true rfl) (fun {p e s m args below meth c ls} C0 Wd hl hret hlk hin => ?_)
  have hl : lv_has ls 4 [(0, .ref (ad 398)), (1, .int (zI x0))] := hl
  obtain ⟨hP1, hP2, hP3, hP4, hP5, hP6⟩ := id hP
  refine z_aload_n C0 hl 0 rfl dX12_readNumber_0 ?_
  refine z_aload_n C0 hl 0 rfl dX12_readNumber_1 ?_
  refine zg_9_14 C0 Wd zN398 zK398 zk_1626 dX12_readNumber_2 ?_
  obtain ⟨he2, hz1⟩ : (zM0 398 14) = (zb (q0 < 0)) ∧ zR (zb (q0 < 0)) := (fun q => ⟨q, q ▸ Wd.rm _ _⟩) hP.2.2.2.2.1
  refine z_top (congrArg zI he2) ?_
  clear he2
  refine z_if_ne_b C0 (tgt := 15) dX12_readNumber_5 (by decide) (fun c3 => ?_) (fun c3 => ?_)
  · skip
    refine z_iconst C0 dX12_readNumber_15 ?_
    refine z_goto C0 (tgt := 20) dX12_readNumber_16 (by decide) ?_
    refine zp_9_14 C0 Wd zN398 zK398 (by omega) zk_1626 dX12_readNumber_20 (fun H locs Wd => ?_)
    have hPs4 : zPS T n q0 (zu zM0 398 14 1) := zPS_14 hP rfl (zb_t (by assumption)).symm
    refine z_iconst C0 dX12_readNumber_23 ?_
    refine z_istore_n C0 hl [(2, .int (zI 0)), (0, .ref (ad 398)), (1, .int (zI x0))] (by decide) rfl dX12_readNumber_24 (fun ls hl => ?_)
    refine z_iconst C0 dX12_readNumber_25 ?_
    refine z_istore_n C0 hl [(3, .int (zI 0)), (2, .int (zI 0)), (0, .ref (ad 398)), (1, .int (zI x0))] (by decide) rfl dX12_readNumber_26 (fun ls hl => ?_)
    refine z_iload_n C0 hl 0 rfl dX12_readNumber_27 ?_
    refine z_iload_n C0 hl 3 rfl dX12_readNumber_28 ?_
    refine z_icmp_ge C0 (tgt := 73) (zR_mk (by decide) (by decide)) hx0 dX12_readNumber_29 (by decide) (fun c5 => absurd c5 (by omega)) (fun c5 => ?_)
    refine z_aload_n C0 hl 2 rfl dX12_readNumber_32 ?_
    refine z_invVi (As := []) (rest := []) C0 Wd (ct_X12_isDigit l g ad (zu zM0 398 14 1) zF0 T n q0 hPs4 hT) kv_X12_isDigit zN398 (zE_9 zK398) rfl zk_2035 rfl hl.1 rfl (Nat.le_of_ble_eq_true rfl) (by decide) (by decide) dX12_readNumber_33 (fun r6 zMr6 zFr6 H locs hrr6 hp Wd => ?_)
    obtain ⟨rfl, rfl, rfl⟩ := hp
    refine z_if_eq_b C0 (tgt := 73) dX12_readNumber_36 (by decide) (fun c8 => ?_) (fun c8 => absurd c8 (fun z => absurd z.1 (by omega)))
    refine z_iload_n C0 hl 1 rfl dX12_readNumber_73 ?_
    have hz9 : zst T n 37 q0 = q0 := zst_lt (by assumption)
    exact z_iret C0 Wd hret hlk (zR_mk (by decide) (by decide)) ⟨(by rw [hz9, if_neg (by omega)]), (by rw [hz9]; exact zsp_of hPs4.2.2.2.1 hPs4.2.2.2.2.1 (fun i j h => by rw [zu_ne (by omega)])), rfl⟩ dX12_readNumber_74
  · skip
    refine z_aload_n C0 hl 0 rfl dX12_readNumber_8 ?_
    refine z_invVi (As := []) (rest := [.ref (ad 398)]) C0 Wd (ct_X12_isDigit l g ad zM0 zF0 T n q0 hP hT) kv_X12_isDigit zN398 (zE_9 zK398) rfl zk_2035 rfl hl.1 rfl (Nat.le_of_ble_eq_true rfl) (by decide) (by decide) dX12_readNumber_9 (fun r9 zMr9 zFr9 H locs hrr9 hp Wd => ?_)
    obtain ⟨rfl, rfl, rfl⟩ := hp
    refine z_if_ne_b C0 (tgt := 19) dX12_readNumber_12 (by decide) (fun c11 => ?_) (fun c11 => ?_)
    · skip
      refine z_iconst C0 dX12_readNumber_19 ?_
      refine zp_9_14 C0 Wd zN398 zK398 (by omega) zk_1626 dX12_readNumber_20 (fun H locs Wd => ?_)
      have hPs12 : zPS T n q0 (zu zM0 398 14 0) := zPS_14 hP rfl (zb_f (by omega)).symm
      refine z_iconst C0 dX12_readNumber_23 ?_
      refine z_istore_n C0 hl [(2, .int (zI 0)), (0, .ref (ad 398)), (1, .int (zI x0))] (by decide) rfl dX12_readNumber_24 (fun ls hl => ?_)
      refine z_iconst C0 dX12_readNumber_25 ?_
      refine z_istore_n C0 hl [(3, .int (zI 0)), (2, .int (zI 0)), (0, .ref (ad 398)), (1, .int (zI x0))] (by decide) rfl dX12_readNumber_26 (fun ls hl => ?_)
      refine z_iload_n C0 hl 0 rfl dX12_readNumber_27 ?_
      refine z_iload_n C0 hl 3 rfl dX12_readNumber_28 ?_
      refine z_icmp_ge C0 (tgt := 73) (zR_mk (by decide) (by decide)) hx0 dX12_readNumber_29 (by decide) (fun c13 => absurd c13 (by omega)) (fun c13 => ?_)
      refine z_aload_n C0 hl 2 rfl dX12_readNumber_32 ?_
      refine z_invVi (As := []) (rest := []) C0 Wd (ct_X12_isDigit l g ad (zu zM0 398 14 0) zF0 T n q0 hPs12 hT) kv_X12_isDigit zN398 (zE_9 zK398) rfl zk_2035 rfl hl.1 rfl (Nat.le_of_ble_eq_true rfl) (by decide) (by decide) dX12_readNumber_33 (fun r14 zMr14 zFr14 H locs hrr14 hp Wd => ?_)
      obtain ⟨rfl, rfl, rfl⟩ := hp
      refine z_if_eq_b C0 (tgt := 73) dX12_readNumber_36 (by decide) (fun c16 => absurd c16 (fun z => z ⟨by omega, c11.2⟩)) (fun c16 => ?_)
      have hdl17 := c11.2.1
      have hdv18 := c11.2.2
      refine z_bipush C0 dX12_readNumber_39 (by decide) ?_
      refine z_iload_n C0 hl 1 rfl dX12_readNumber_41 ?_
      refine z_imul C0 dX12_readNumber_42 ?_
      refine z_top (show zI (10 * 0) = zI 0 from rfl) ?_
      refine z_aload_n C0 hl 2 rfl dX12_readNumber_43 ?_
      refine zg_9_11 C0 Wd zN398 zK398 zk_1623 dX12_readNumber_44 ?_
      refine z_aload_n C0 hl 2 rfl dX12_readNumber_47 ?_
      refine zg_9_13 C0 Wd zN398 zK398 zk_1625 dX12_readNumber_48 ?_
      obtain ⟨he20, hz19⟩ : ((zu zM0 398 14 0) 398 13) = q0 ∧ zR q0 := (fun q => ⟨q, q ▸ Wd.rm _ _⟩) (hPs12.2.2.2.1.trans (zps_nn (by omega)))
      refine z_top (congrArg zI he20) ?_
      clear he20
      refine z_cald C0 Wd zN406 zK406 zL406 (by omega) (by omega) (by decide) dX12_readNumber_51 ?_
      obtain ⟨he22, hz21⟩ : ((zu zM0 398 14 0) 406 q0) = (T q0) ∧ zR (T q0) := (fun q => ⟨q, q ▸ Wd.rm _ _⟩) (congrFun hPs12.1 _)
      refine z_top (congrArg zI he22) ?_
      clear he22
      refine z_iadd C0 dX12_readNumber_52 ?_
      refine z_bipush C0 dX12_readNumber_53 (by decide) ?_
      refine z_isub C0 dX12_readNumber_55 ?_
      refine z_istore_n C0 hl [(2, .int (zI ((0 + (T q0)) - 48))), (3, .int (zI 0)), (0, .ref (ad 398)), (1, .int (zI x0))] (by decide) rfl dX12_readNumber_56 (fun ls hl => ?_)
      refine z_aload_n C0 hl 2 rfl dX12_readNumber_57 ?_
      refine z_dup C0 rfl dX12_readNumber_58 ?_
      refine zg_9_13 C0 Wd zN398 zK398 zk_1625 dX12_readNumber_59 ?_
      obtain ⟨he24, hz23⟩ : ((zu zM0 398 14 0) 398 13) = q0 ∧ zR q0 := (fun q => ⟨q, q ▸ Wd.rm _ _⟩) (hPs12.2.2.2.1.trans (zps_nn (by omega)))
      refine z_top (congrArg zI he24) ?_
      clear he24
      refine z_iconst C0 dX12_readNumber_62 ?_
      refine z_iadd C0 dX12_readNumber_63 ?_
      refine zp_9_13 C0 Wd zN398 zK398 (by have q0 := hz23.1; have p0 := hz23.2; exact zR_mk (by omega) (by omega)) zk_1625 dX12_readNumber_64 (fun H locs Wd => ?_)
      have hPs25 : zPS T n (q0 + 1) (zu (zu zM0 398 14 0) 398 13 (q0 + 1)) := zPS_13 hPs12 (by omega) (by omega) rfl
      refine z_iinc C0 hl 1 (t := 0) (u := 1) rfl (by omega) [(3, .int (zI 1)), (2, .int (zI ((0 + (T q0)) - 48))), (0, .ref (ad 398)), (1, .int (zI x0))] (by decide) rfl dX12_readNumber_67 (fun ls hl => ?_)
      refine z_goto C0 (tgt := 27) dX12_readNumber_70 (by decide) ?_
      refine z_iload_n C0 hl 0 rfl dX12_readNumber_27 ?_
      refine z_iload_n C0 hl 3 rfl dX12_readNumber_28 ?_
      refine z_icmp_ge C0 (tgt := 73) (zR_mk (by decide) (by decide)) hx0 dX12_readNumber_29 (by decide) (fun c26 => absurd c26 (by omega)) (fun c26 => ?_)
      refine z_aload_n C0 hl 2 rfl dX12_readNumber_32 ?_
      refine z_invVi (As := []) (rest := []) C0 Wd (ct_X12_isDigit l g ad (zu (zu zM0 398 14 0) 398 13 (q0 + 1)) zF0 T n (q0 + 1) hPs25 hT) kv_X12_isDigit zN398 (zE_9 zK398) rfl zk_2035 rfl hl.1 rfl (Nat.le_of_ble_eq_true rfl) (by decide) (by decide) dX12_readNumber_33 (fun r27 zMr27 zFr27 H locs hrr27 hp Wd => ?_)
      obtain ⟨rfl, rfl, rfl⟩ := hp
      refine z_if_eq_b C0 (tgt := 73) dX12_readNumber_36 (by decide) (fun c29 => ?_) (fun c29 => ?_)
      · skip
        refine z_iload_n C0 hl 1 rfl dX12_readNumber_73 ?_
        have hz9 : zst T n 37 q0 = (q0 + 1) := zst_n1 (by omega) c11.2 (fun z => c29 ⟨by omega, z⟩)
        exact z_iret C0 Wd hret hlk (by have q0 := hz21.1; have p0 := hz21.2; exact zR_mk (by omega) (by omega)) ⟨(by rw [hz9, if_pos (by omega)]; unfold znv; rw [if_neg (fun z => c29 ⟨by omega, z.2⟩)]; omega), (by rw [hz9]; exact zsp_of hPs25.2.2.2.1 hPs25.2.2.2.2.1 (fun i j h => by rw [zu_ne (by omega), zu_ne (by omega)])), rfl⟩ dX12_readNumber_74
      · skip
        have hdl30 := c29.2.1
        have hdv31 := c29.2.2
        refine z_bipush C0 dX12_readNumber_39 (by decide) ?_
        refine z_iload_n C0 hl 1 rfl dX12_readNumber_41 ?_
        refine z_imul C0 dX12_readNumber_42 ?_
        refine z_aload_n C0 hl 2 rfl dX12_readNumber_43 ?_
        refine zg_9_11 C0 Wd zN398 zK398 zk_1623 dX12_readNumber_44 ?_
        refine z_aload_n C0 hl 2 rfl dX12_readNumber_47 ?_
        refine zg_9_13 C0 Wd zN398 zK398 zk_1625 dX12_readNumber_48 ?_
        obtain ⟨he33, hz32⟩ : ((zu (zu zM0 398 14 0) 398 13 (q0 + 1)) 398 13) = (q0 + 1) ∧ zR (q0 + 1) := (fun q => ⟨q, q ▸ Wd.rm _ _⟩) (hPs25.2.2.2.1.trans (zps_nn (by omega)))
        refine z_top (congrArg zI he33) ?_
        clear he33
        refine z_cald C0 Wd zN406 zK406 zL406 (by omega) (by omega) (by decide) dX12_readNumber_51 ?_
        obtain ⟨he35, hz34⟩ : ((zu (zu zM0 398 14 0) 398 13 (q0 + 1)) 406 (q0 + 1)) = (T (q0 + 1)) ∧ zR (T (q0 + 1)) := (fun q => ⟨q, q ▸ Wd.rm _ _⟩) (congrFun hPs25.1 _)
        refine z_top (congrArg zI he35) ?_
        clear he35
        refine z_iadd C0 dX12_readNumber_52 ?_
        refine z_bipush C0 dX12_readNumber_53 (by decide) ?_
        refine z_isub C0 dX12_readNumber_55 ?_
        refine z_istore_n C0 hl [(2, .int (zI (((10 * ((0 + (T q0)) - 48)) + (T (q0 + 1))) - 48))), (3, .int (zI 1)), (0, .ref (ad 398)), (1, .int (zI x0))] (by decide) rfl dX12_readNumber_56 (fun ls hl => ?_)
        refine z_aload_n C0 hl 2 rfl dX12_readNumber_57 ?_
        refine z_dup C0 rfl dX12_readNumber_58 ?_
        refine zg_9_13 C0 Wd zN398 zK398 zk_1625 dX12_readNumber_59 ?_
        obtain ⟨he37, hz36⟩ : ((zu (zu zM0 398 14 0) 398 13 (q0 + 1)) 398 13) = (q0 + 1) ∧ zR (q0 + 1) := (fun q => ⟨q, q ▸ Wd.rm _ _⟩) (hPs25.2.2.2.1.trans (zps_nn (by omega)))
        refine z_top (congrArg zI he37) ?_
        clear he37
        refine z_iconst C0 dX12_readNumber_62 ?_
        refine z_iadd C0 dX12_readNumber_63 ?_
        refine zp_9_13 C0 Wd zN398 zK398 (by have q0 := hz36.1; have p0 := hz36.2; exact zR_mk (by omega) (by omega)) zk_1625 dX12_readNumber_64 (fun H locs Wd => ?_)
        have hPs38 : zPS T n ((q0 + 1) + 1) (zu (zu (zu zM0 398 14 0) 398 13 (q0 + 1)) 398 13 ((q0 + 1) + 1)) := zPS_13 hPs25 (by omega) (by omega) rfl
        refine z_iinc C0 hl 1 (t := 1) (u := 2) rfl (by omega) [(3, .int (zI 2)), (2, .int (zI (((10 * ((0 + (T q0)) - 48)) + (T (q0 + 1))) - 48))), (0, .ref (ad 398)), (1, .int (zI x0))] (by decide) rfl dX12_readNumber_67 (fun ls hl => ?_)
        refine z_goto C0 (tgt := 27) dX12_readNumber_70 (by decide) ?_
        refine z_iload_n C0 hl 0 rfl dX12_readNumber_27 ?_
        refine z_iload_n C0 hl 3 rfl dX12_readNumber_28 ?_
        refine z_icmp_ge C0 (tgt := 73) (zR_mk (by decide) (by decide)) hx0 dX12_readNumber_29 (by decide) (fun c39 => ?_) (fun c39 => absurd c39 (by omega))
        refine z_iload_n C0 hl 1 rfl dX12_readNumber_73 ?_
        have hz9 : zst T n 37 q0 = ((q0 + 1) + 1) := (zst_n2 (by omega) c11.2 c29.2).trans (by omega)
        exact z_iret C0 Wd hret hlk (by have q0 := hz21.1; have p0 := hz21.2; have q1 := hz34.1; have p1 := hz34.2; exact zR_mk (by omega) (by omega)) ⟨(by rw [hz9, if_pos (by omega)]; unfold znv; rw [if_pos ⟨rfl, c29.2⟩]; omega), (by rw [hz9]; exact zsp_of hPs38.2.2.2.1 hPs38.2.2.2.2.1 (fun i j h => by rw [zu_ne (by omega), zu_ne (by omega), zu_ne (by omega)])), rfl⟩ dX12_readNumber_74
    · skip
      refine z_iconst C0 dX12_readNumber_15 ?_
      refine z_goto C0 (tgt := 20) dX12_readNumber_16 (by decide) ?_
      refine zp_9_14 C0 Wd zN398 zK398 (by omega) zk_1626 dX12_readNumber_20 (fun H locs Wd => ?_)
      have hPs40 : zPS T n (-1 - q0) (zu zM0 398 14 1) := zPS_14 hP (by rw [zps_ng (by omega), zps_nn (by omega)]) (zb_t (by omega)).symm
      refine z_iconst C0 dX12_readNumber_23 ?_
      refine z_istore_n C0 hl [(2, .int (zI 0)), (0, .ref (ad 398)), (1, .int (zI x0))] (by decide) rfl dX12_readNumber_24 (fun ls hl => ?_)
      refine z_iconst C0 dX12_readNumber_25 ?_
      refine z_istore_n C0 hl [(3, .int (zI 0)), (2, .int (zI 0)), (0, .ref (ad 398)), (1, .int (zI x0))] (by decide) rfl dX12_readNumber_26 (fun ls hl => ?_)
      refine z_iload_n C0 hl 0 rfl dX12_readNumber_27 ?_
      refine z_iload_n C0 hl 3 rfl dX12_readNumber_28 ?_
      refine z_icmp_ge C0 (tgt := 73) (zR_mk (by decide) (by decide)) hx0 dX12_readNumber_29 (by decide) (fun c41 => absurd c41 (by omega)) (fun c41 => ?_)
      refine z_aload_n C0 hl 2 rfl dX12_readNumber_32 ?_
      refine z_invVi (As := []) (rest := []) C0 Wd (ct_X12_isDigit l g ad (zu zM0 398 14 1) zF0 T n (-1 - q0) hPs40 hT) kv_X12_isDigit zN398 (zE_9 zK398) rfl zk_2035 rfl hl.1 rfl (Nat.le_of_ble_eq_true rfl) (by decide) (by decide) dX12_readNumber_33 (fun r42 zMr42 zFr42 H locs hrr42 hp Wd => ?_)
      obtain ⟨rfl, rfl, rfl⟩ := hp
      refine z_if_eq_b C0 (tgt := 73) dX12_readNumber_36 (by decide) (fun c44 => ?_) (fun c44 => absurd c44 (fun z => absurd z.1 (by omega)))
      refine z_iload_n C0 hl 1 rfl dX12_readNumber_73 ?_
      have hz9 : zst T n 37 q0 = (-1 - q0) := zst_n0 (by omega) (fun z => c11 ⟨by omega, z⟩)
      exact z_iret C0 Wd hret hlk (zR_mk (by decide) (by decide)) ⟨(by rw [hz9, if_neg (by omega)]), (by rw [hz9]; exact zsp_of hPs40.2.2.2.1 hPs40.2.2.2.2.1 (fun i j h => by rw [zu_ne (by omega)])), rfl⟩ dX12_readNumber_74
theorem kv_X12_readDigit : zKV yX12_readDigit cX12_readDigit 2 (some .int) "DrumWarrenModel" 1 := ⟨zk_2024, zk_2023, zk_59, zk_80, by decide, by decide, by decide +kernel⟩
set_option maxHeartbeats 4000000 in
set_option maxRecDepth 100000 in
theorem ct_X12_readDigit (l : Launch) (g : zG) (ad : Int → Nat) (zM0 zF0 : zMem) (T : Int → Int) (n q0 : Int) (q : Int × Int × List Int32) (hq : q ∈ zTxt) (lq : List Int) (hlz : ztl q = lq) (hP : zPS T n q0 zM0) (hT : ∀ j, 0 ≤ T j ∧ T j < 65536) (hns : ∀ j : Nat, j < q.2.2.length → ztx q (j : Int) ≠ 35 ∧ ztx q (j : Int) ≠ 37) : zMt l yX12_readDigit cX12_readDigit 2 (some .int) 5 0 0 g 410 ad [.ref (ad 398), .ref (g.2.2.2 q.1)] zM0 zF0 (zPi (fun r M' F' => (if 0 ≤ zst T n 35 (zfw T n lq q0) then znv T n 35 (zfw T n lq q0) else 0) = r ∧ (zsp zM0 (zst T n 35 (zfw T n lq q0))) = M' ∧ zF0 = F')) := by
  refine zMt.of "DrumWarrenModel" rfl (by decide +kernel) (Nat.le_of_ble_eq_true rfl) (fun {p e s m args below meth c ls} C0 Wd hl hret hlk hin => ?_)
  have hl : lv_has ls 2 [(0, .ref (ad 398)), (1, .ref (g.2.2.2 q.1))] := hl
  obtain ⟨hP1, hP2, hP3, hP4, hP5, hP6⟩ := id hP
  refine z_aload_n C0 hl 0 rfl dX12_readDigit_0 ?_
  refine z_aload_n C0 hl 1 rfl dX12_readDigit_1 ?_
  refine z_invVv (As := [.ref (g.2.2.2 q.1)]) (rest := []) C0 Wd (ct_X12_skip l g ad zM0 zF0 T n q0 q hq lq hlz hP hT hns) kv_X12_skip zN398 (zE_9 zK398) rfl zk_2025 rfl hl.1 rfl (Nat.le_of_ble_eq_true rfl) (by decide) (by decide) dX12_readDigit_2 (fun zMr1 zFr1 H locs hp Wd => ?_)
  obtain ⟨rfl, rfl⟩ := hp
  have hPs3 : zPS T n (zfw T n lq q0) (zsp zM0 (zfw T n lq q0)) := zPS_sp hP ⟨by have := zfw_bd (T := T) (n := n) lq hP6.1 hP6.2; omega, (zfw_bd lq hP6.1 hP6.2).2⟩
  refine z_aload_n C0 hl 0 rfl dX12_readDigit_5 ?_
  refine z_iconst C0 dX12_readDigit_6 ?_
  refine z_invVi (As := [.int (zI 1)]) (rest := []) C0 Wd (ct_X12_readNumber_1 l g ad (zsp zM0 (zfw T n lq q0)) zF0 T n (zfw T n lq q0) 1 (zR_mk (by decide) (by decide)) hPs3 hT (by omega)) kv_X12_readNumber zN398 (zE_9 zK398) rfl zk_2031 rfl hl.1 rfl (Nat.le_of_ble_eq_true rfl) (by decide) (by decide) dX12_readDigit_7 (fun r4 zMr4 zFr4 H locs hrr4 hp Wd => ?_)
  obtain ⟨rfl, rfl, rfl⟩ := hp
  exact z_iret C0 Wd hret hlk hrr4 ⟨rfl, zsp_zsp.symm, rfl⟩ dX12_readDigit_10
theorem kv_X12_readCommand : zKV yX12_readCommand cX12_readCommand 4 none "DrumWarrenModel" 0 := ⟨zk_2015, zk_2014, zk_57, zk_80, by decide, by decide, by decide +kernel⟩
set_option maxHeartbeats 4000000 in
set_option maxRecDepth 100000 in
theorem ct_X12_readCommand (l : Launch) (g : zG) (ad : Int → Nat) (zM0 zF0 : zMem) (T : Int → Int) (n q0 : Int) (hP : zPS T n q0 zM0) (hT : ∀ j, 0 ≤ T j ∧ T j < 65536) (ha : 0 ≤ q0) (hk : 0 ≤ zM0 398 18 ∧ zM0 398 18 < 60) : zMt l yX12_readCommand cX12_readCommand 4 none 6 0 0 g 410 ad [.ref (ad 398)] zM0 zF0 (zPv (fun M' F' => zRC T n q0 (zM0 398 18) zM0 M' ∧ zF0 = F')) := by
  refine zMt.of "DrumWarrenModel" rfl (by decide +kernel) (Nat.le_of_ble_eq_true rfl) (fun {p e s m args below meth c ls} C0 Wd hl hret hlk hin => ?_)
  have hl : lv_has ls 4 [(0, .ref (ad 398))] := hl
  obtain ⟨hP1, hP2, hP3, hP4, hP5, hP6⟩ := id hP
  refine z_aload_n C0 hl 0 rfl dX12_readCommand_0 ?_
  refine zg_9_14 C0 Wd zN398 zK398 zk_1626 dX12_readCommand_1 ?_
  obtain ⟨he2, hz1⟩ : (zM0 398 14) = (zb (q0 < 0)) ∧ zR (zb (q0 < 0)) := (fun q => ⟨q, q ▸ Wd.rm _ _⟩) hP.2.2.2.2.1
  refine z_top (congrArg zI he2) ?_
  clear he2
  refine z_if_eq_b C0 (tgt := 8) dX12_readCommand_4 (by decide) (fun c3 => ?_) (fun c3 => absurd c3 (by omega))
  refine z_aload_n C0 hl 0 rfl dX12_readCommand_8 ?_
  refine z_iconst C0 dX12_readCommand_9 ?_
  refine z_invVi (As := [.int (zI 0)]) (rest := []) C0 Wd (ct_X12_behind l g ad zM0 zF0 T n q0 0 (zR_mk (by decide) (by decide)) hP (by omega) hT) kv_X12_behind zN398 (zE_9 zK398) rfl zk_2016 rfl hl.1 rfl (Nat.le_of_ble_eq_true rfl) (by decide) (by decide) dX12_readCommand_10 (fun r4 zMr4 zFr4 H locs hrr4 hp Wd => ?_)
  obtain ⟨rfl, rfl, rfl⟩ := hp
  have hbzf : zps q0 + 0 = q0 := by rw [zps_nn (by omega)]; omega
  obtain ⟨he6, hbqf⟩ : (zbh T n (zps q0 + 0)) = (zbh T n q0) ∧ zR (zbh T n q0) := (fun q => ⟨q, q ▸ hrr4⟩) (congrArg (zbh T n) hbzf)
  refine z_top (congrArg zI he6) ?_
  clear he6
  refine z_istore_n C0 hl [(1, .int (zI (zbh T n q0))), (0, .ref (ad 398))] (by decide) rfl dX12_readCommand_13 (fun ls hl => ?_)
  refine z_aload_n C0 hl 1 rfl dX12_readCommand_14 ?_
  refine z_iconst C0 dX12_readCommand_15 ?_
  refine z_invVi (As := [.int (zI 1)]) (rest := []) C0 Wd (ct_X12_behind l g ad zM0 zF0 T n q0 1 (zR_mk (by decide) (by decide)) hP (by omega) hT) kv_X12_behind zN398 (zE_9 zK398) rfl zk_2016 rfl hl.1 rfl (Nat.le_of_ble_eq_true rfl) (by decide) (by decide) dX12_readCommand_16 (fun r7 zMr7 zFr7 H locs hrr7 hp Wd => ?_)
  obtain ⟨rfl, rfl, rfl⟩ := hp
  have hbzs : zps q0 + 1 = (q0 + 1) := by rw [zps_nn (by omega)]
  obtain ⟨he9, hbqs⟩ : (zbh T n (zps q0 + 1)) = (zbh T n (q0 + 1)) ∧ zR (zbh T n (q0 + 1)) := (fun q => ⟨q, q ▸ hrr7⟩) (congrArg (zbh T n) hbzs)
  refine z_top (congrArg zI he9) ?_
  clear he9
  refine z_istore_n C0 hl [(2, .int (zI (zbh T n (q0 + 1)))), (1, .int (zI (zbh T n q0))), (0, .ref (ad 398))] (by decide) rfl dX12_readCommand_19 (fun ls hl => ?_)
  refine z_iconst C0 dX12_readCommand_20 ?_
  refine z_aload_n C0 hl 2 rfl dX12_readCommand_21 ?_
  refine zg_9_18 C0 Wd zN398 zK398 zk_1630 dX12_readCommand_22 ?_
  have hz10 : zR (zM0 398 18) := Wd.rm _ _
  refine z_imul C0 dX12_readCommand_25 ?_
  refine z_istore_n C0 hl [(3, .int (zI (4 * (zM0 398 18)))), (2, .int (zI (zbh T n (q0 + 1)))), (1, .int (zI (zbh T n q0))), (0, .ref (ad 398))] (by decide) rfl dX12_readCommand_26 (fun ls hl => ?_)
  refine z_aload_n C0 hl 3 rfl dX12_readCommand_27 ?_
  refine z_dup C0 rfl dX12_readCommand_28 ?_
  refine zg_9_18 C0 Wd zN398 zK398 zk_1630 dX12_readCommand_29 ?_
  have hz11 : zR (zM0 398 18) := Wd.rm _ _
  refine z_iconst C0 dX12_readCommand_32 ?_
  refine z_iadd C0 dX12_readCommand_33 ?_
  refine zp_9_18 C0 Wd zN398 zK398 (by have q0 := hz11.1; have p0 := hz11.2; exact zR_mk (by omega) (by omega)) zk_1630 dX12_readCommand_34 (fun H locs Wd => ?_)
  have hPs12 : zPS T n q0 (zu zM0 398 18 ((zM0 398 18) + 1)) := zPS_zu hP (by decide) (by omega)
  refine z_iload_n C0 hl 2 rfl dX12_readCommand_37 ?_
  refine z_bipush C0 dX12_readCommand_38 (by decide) ?_
  refine z_icmp_ne C0 (tgt := 102) hbqf (zR_mk (by decide) (by decide)) dX12_readCommand_40 (by decide) (fun c13 => ?_) (fun c13 => ?_)
  · skip
    refine z_iload_n C0 hl 2 rfl dX12_readCommand_102 ?_
    refine z_bipush C0 dX12_readCommand_103 (by decide) ?_
    refine z_icmp_ne C0 (tgt := 138) hbqf (zR_mk (by decide) (by decide)) dX12_readCommand_105 (by decide) (fun c14 => ?_) (fun c14 => ?_)
    · skip
      refine z_iload_n C0 hl 2 rfl dX12_readCommand_138 ?_
      refine z_bipush C0 dX12_readCommand_139 (by decide) ?_
      refine z_icmp_ne C0 (tgt := 175) hbqf (zR_mk (by decide) (by decide)) dX12_readCommand_141 (by decide) (fun c15 => ?_) (fun c15 => ?_)
      · skip
        refine z_iload_n C0 hl 2 rfl dX12_readCommand_175 ?_
        refine z_bipush C0 dX12_readCommand_176 (by decide) ?_
        refine z_icmp_ne C0 (tgt := 239) hbqf (zR_mk (by decide) (by decide)) dX12_readCommand_178 (by decide) (fun c16 => ?_) (fun c16 => ?_)
        · skip
          refine z_iload_n C0 hl 2 rfl dX12_readCommand_239 ?_
          refine z_bipush C0 dX12_readCommand_240 (by decide) ?_
          refine z_icmp_ne C0 (tgt := 270) hbqf (zR_mk (by decide) (by decide)) dX12_readCommand_242 (by decide) (fun c17 => ?_) (fun c17 => ?_)
          · skip
            refine z_iload_n C0 hl 2 rfl dX12_readCommand_270 ?_
            refine z_bipush C0 dX12_readCommand_271 (by decide) ?_
            refine z_icmp_ne C0 (tgt := 301) hbqf (zR_mk (by decide) (by decide)) dX12_readCommand_273 (by decide) (fun c18 => ?_) (fun c18 => ?_)
            · skip
              refine z_iload_n C0 hl 2 rfl dX12_readCommand_301 ?_
              refine z_bipush C0 dX12_readCommand_302 (by decide) ?_
              refine z_icmp_ne C0 (tgt := 346) hbqf (zR_mk (by decide) (by decide)) dX12_readCommand_304 (by decide) (fun c19 => ?_) (fun c19 => ?_)
              · skip
                refine z_aload_n C0 hl 3 rfl dX12_readCommand_346 ?_
                refine zg_9_17 C0 Wd zN398 zK398 zk_1629 dX12_readCommand_347 ?_
                refine z_iload_n C0 hl 0 rfl dX12_readCommand_350 ?_
                refine z_bipush C0 dX12_readCommand_351 (by decide) ?_
                refine z_iast C0 Wd zN407 zK407 zL407 (by omega) (by omega) (by decide) (zR_mk (by decide) (by decide)) dX12_readCommand_353 (fun H locs Wd => ?_)
                have hPs20 : zPS T n q0 (zu (zu zM0 398 18 ((zM0 398 18) + 1)) 407 (4 * (zM0 398 18)) 99) := zPS_zu hPs12 (by decide) (by omega)
                refine z_aload_n C0 hl 3 rfl dX12_readCommand_354 ?_
                refine z_ldcr C0 (zc_r C0 (q := ("DrumWarrenModel", 254, "chamber", 52)) (List.mem_of_getElem? (i := 12) rfl)) dX12_readCommand_355 ?_
                refine z_invVv (As := [.ref (g.2.2.2 52)]) (rest := []) C0 Wd (ct_X12_skip l g ad (zu (zu zM0 398 18 ((zM0 398 18) + 1)) 407 (4 * (zM0 398 18)) 99) zF0 T n q0 (52, 92, [99, 104, 97, 109, 98, 101, 114]) (List.mem_of_getElem? (i := 20) rfl) ([99, 104, 97, 109, 98, 101, 114]) ztl_52 hPs20 hT (by decide +kernel)) kv_X12_skip zN398 (zE_9 zK398) rfl zk_2025 rfl hl.1 rfl (Nat.le_of_ble_eq_true rfl) (by decide) (by decide) dX12_readCommand_357 (fun zMr21 zFr21 H locs hp Wd => ?_)
                obtain ⟨rfl, rfl⟩ := hp
                have hPs23 : zPS T n (zfw T n [99, 104, 97, 109, 98, 101, 114] q0) (zsp (zu (zu zM0 398 18 ((zM0 398 18) + 1)) 407 (4 * (zM0 398 18)) 99) (zfw T n [99, 104, 97, 109, 98, 101, 114] q0)) := zPS_sp hPs20 (zfw_in [99, 104, 97, 109, 98, 101, 114] hPs20.2.2.2.2.2)
                have hkn : zkn T n q0 = 0 := by unfold zkn; rw [if_neg (by omega), if_neg (by omega), if_neg (by omega), if_neg (by omega), if_neg (by omega)]
                have hQ : zEn T n q0 = (zfw T n [99, 104, 97, 109, 98, 101, 114] q0) := by unfold zEn; rw [hkn]; rfl
                have hRC : zRC T n q0 (zM0 398 18) zM0 (zsp (zu (zu zM0 398 18 ((zM0 398 18) + 1)) 407 (4 * (zM0 398 18)) 99) (zfw T n [99, 104, 97, 109, 98, 101, 114] q0)) := by
                  refine ⟨by rw [hQ]; exact hPs23, ((zsp_398 (by omega) (by omega)).trans ((zu_ne (by omega)).trans (zu_same _ _ _ _))), by rw [hkn]; exact ((zsp_row (by omega) _).trans (zu_same _ _ _ _)), fun hq j j0 j1 => ?_, fun i h1 h2 => ?_, fun j h1 h2 h3 => ?_, fun j h => ?_⟩
                  · rw [hQ] at hq; rw [hkn] at j1; unfold zka; rw [hkn]
                    exact absurd j1 (by show ¬ j < 0; omega)
                  · rw [zsp_rw (by omega), zu_row (by omega), zu_row (by omega)]
                  · rw [zsp_398 (by omega) (by omega), zu_ne (by omega), zu_ne (by omega)]
                  · rw [zsp_row (by omega) _, zu_ne (by omega), zu_ne (by omega)]
                exact z_vret C0 Wd hret hlk ⟨hRC, rfl⟩ dX12_readCommand_360
              · skip
                refine z_aload_n C0 hl 3 rfl dX12_readCommand_307 ?_
                refine zg_9_17 C0 Wd zN398 zK398 zk_1629 dX12_readCommand_308 ?_
                refine z_iload_n C0 hl 0 rfl dX12_readCommand_311 ?_
                refine z_bipush C0 dX12_readCommand_312 (by decide) ?_
                refine z_iast C0 Wd zN407 zK407 zL407 (by omega) (by omega) (by decide) (zR_mk (by decide) (by decide)) dX12_readCommand_314 (fun H locs Wd => ?_)
                have hPs24 : zPS T n q0 (zu (zu zM0 398 18 ((zM0 398 18) + 1)) 407 (4 * (zM0 398 18)) 103) := zPS_zu hPs12 (by decide) (by omega)
                refine z_aload_n C0 hl 3 rfl dX12_readCommand_315 ?_
                refine zg_9_17 C0 Wd zN398 zK398 zk_1629 dX12_readCommand_316 ?_
                refine z_iload_n C0 hl 0 rfl dX12_readCommand_319 ?_
                refine z_iconst C0 dX12_readCommand_320 ?_
                refine z_iadd C0 dX12_readCommand_321 ?_
                refine z_aload_n C0 hl 3 rfl dX12_readCommand_322 ?_
                refine z_ldcr C0 (zc_r C0 (q := ("DrumWarrenModel", 250, "go ", 50)) (List.mem_of_getElem? (i := 10) rfl)) dX12_readCommand_323 ?_
                refine z_invVi (As := [.ref (g.2.2.2 50)]) (rest := [.int (zI ((4 * (zM0 398 18)) + 1)), .ref (ad 407)]) C0 Wd (ct_X12_readDigit l g ad (zu (zu zM0 398 18 ((zM0 398 18) + 1)) 407 (4 * (zM0 398 18)) 103) zF0 T n q0 (50, 90, [103, 111, 32]) (List.mem_of_getElem? (i := 18) rfl) ([103, 111, 32]) ztl_50 hPs24 hT (by decide +kernel)) kv_X12_readDigit zN398 (zE_9 zK398) rfl zk_2021 rfl hl.1 rfl (Nat.le_of_ble_eq_true rfl) (by decide) (by decide) dX12_readCommand_325 (fun r25 zMr25 zFr25 H locs hrr25 hp Wd => ?_)
                obtain ⟨rfl, rfl, rfl⟩ := hp
                have hPs27 : zPS T n (zst T n 35 (zfw T n [103, 111, 32] q0)) (zsp (zu (zu zM0 398 18 ((zM0 398 18) + 1)) 407 (4 * (zM0 398 18)) 103) (zst T n 35 (zfw T n [103, 111, 32] q0))) := zPS_sp hPs24 (zst_in (zfw_in [103, 111, 32] hPs24.2.2.2.2.2))
                refine z_iast C0 Wd zN407 zK407 zL407 (by omega) (by omega) (by decide) hrr25 dX12_readCommand_328 (fun H locs Wd => ?_)
                have hPs28 : zPS T n (zst T n 35 (zfw T n [103, 111, 32] q0)) (zu (zsp (zu (zu zM0 398 18 ((zM0 398 18) + 1)) 407 (4 * (zM0 398 18)) 103) (zst T n 35 (zfw T n [103, 111, 32] q0))) 407 ((4 * (zM0 398 18)) + 1) (if 0 ≤ zst T n 35 (zfw T n [103, 111, 32] q0) then znv T n 35 (zfw T n [103, 111, 32] q0) else 0)) := zPS_zu hPs27 (by decide) (by omega)
                refine z_aload_n C0 hl 3 rfl dX12_readCommand_329 ?_
                refine zg_9_17 C0 Wd zN398 zK398 zk_1629 dX12_readCommand_330 ?_
                refine z_iload_n C0 hl 0 rfl dX12_readCommand_333 ?_
                refine z_iconst C0 dX12_readCommand_334 ?_
                refine z_iadd C0 dX12_readCommand_335 ?_
                refine z_aload_n C0 hl 3 rfl dX12_readCommand_336 ?_
                refine z_ldcr C0 (zc_r C0 (q := ("DrumWarrenModel", 252, "@", 51)) (List.mem_of_getElem? (i := 11) rfl)) dX12_readCommand_337 ?_
                refine z_invVi (As := [.ref (g.2.2.2 51)]) (rest := [.int (zI ((4 * (zM0 398 18)) + 2)), .ref (ad 407)]) C0 Wd (ct_X12_readDigit l g ad (zu (zsp (zu (zu zM0 398 18 ((zM0 398 18) + 1)) 407 (4 * (zM0 398 18)) 103) (zst T n 35 (zfw T n [103, 111, 32] q0))) 407 ((4 * (zM0 398 18)) + 1) (if 0 ≤ zst T n 35 (zfw T n [103, 111, 32] q0) then znv T n 35 (zfw T n [103, 111, 32] q0) else 0)) zF0 T n (zst T n 35 (zfw T n [103, 111, 32] q0)) (51, 91, [64]) (List.mem_of_getElem? (i := 19) rfl) ([64]) ztl_51 hPs28 hT (by decide +kernel)) kv_X12_readDigit zN398 (zE_9 zK398) rfl zk_2021 rfl hl.1 rfl (Nat.le_of_ble_eq_true rfl) (by decide) (by decide) dX12_readCommand_339 (fun r29 zMr29 zFr29 H locs hrr29 hp Wd => ?_)
                obtain ⟨rfl, rfl, rfl⟩ := hp
                have hPs31 : zPS T n (zst T n 35 (zfw T n [64] (zst T n 35 (zfw T n [103, 111, 32] q0)))) (zsp (zu (zsp (zu (zu zM0 398 18 ((zM0 398 18) + 1)) 407 (4 * (zM0 398 18)) 103) (zst T n 35 (zfw T n [103, 111, 32] q0))) 407 ((4 * (zM0 398 18)) + 1) (if 0 ≤ zst T n 35 (zfw T n [103, 111, 32] q0) then znv T n 35 (zfw T n [103, 111, 32] q0) else 0)) (zst T n 35 (zfw T n [64] (zst T n 35 (zfw T n [103, 111, 32] q0))))) := zPS_sp hPs28 (zst_in (zfw_in [64] hPs28.2.2.2.2.2))
                refine z_iast C0 Wd zN407 zK407 zL407 (by omega) (by omega) (by decide) hrr29 dX12_readCommand_342 (fun H locs Wd => ?_)
                have hPs32 : zPS T n (zst T n 35 (zfw T n [64] (zst T n 35 (zfw T n [103, 111, 32] q0)))) (zu (zsp (zu (zsp (zu (zu zM0 398 18 ((zM0 398 18) + 1)) 407 (4 * (zM0 398 18)) 103) (zst T n 35 (zfw T n [103, 111, 32] q0))) 407 ((4 * (zM0 398 18)) + 1) (if 0 ≤ zst T n 35 (zfw T n [103, 111, 32] q0) then znv T n 35 (zfw T n [103, 111, 32] q0) else 0)) (zst T n 35 (zfw T n [64] (zst T n 35 (zfw T n [103, 111, 32] q0))))) 407 ((4 * (zM0 398 18)) + 2) (if 0 ≤ zst T n 35 (zfw T n [64] (zst T n 35 (zfw T n [103, 111, 32] q0))) then znv T n 35 (zfw T n [64] (zst T n 35 (zfw T n [103, 111, 32] q0))) else 0)) := zPS_zu hPs31 (by decide) (by omega)
                refine z_goto C0 (tgt := 360) dX12_readCommand_343 (by decide) ?_
                have hkn : zkn T n q0 = 6 := by unfold zkn; rw [if_neg (by omega), if_neg (by omega), if_neg (by omega), if_neg (by omega), if_pos (by omega)]
                have hQ : zEn T n q0 = (zst T n 35 (zfw T n [64] (zst T n 35 (zfw T n [103, 111, 32] q0)))) := by unfold zEn; rw [hkn]; rfl
                have hRC : zRC T n q0 (zM0 398 18) zM0 (zu (zsp (zu (zsp (zu (zu zM0 398 18 ((zM0 398 18) + 1)) 407 (4 * (zM0 398 18)) 103) (zst T n 35 (zfw T n [103, 111, 32] q0))) 407 ((4 * (zM0 398 18)) + 1) (if 0 ≤ zst T n 35 (zfw T n [103, 111, 32] q0) then znv T n 35 (zfw T n [103, 111, 32] q0) else 0)) (zst T n 35 (zfw T n [64] (zst T n 35 (zfw T n [103, 111, 32] q0))))) 407 ((4 * (zM0 398 18)) + 2) (if 0 ≤ zst T n 35 (zfw T n [64] (zst T n 35 (zfw T n [103, 111, 32] q0))) then znv T n 35 (zfw T n [64] (zst T n 35 (zfw T n [103, 111, 32] q0))) else 0)) := by
                  refine ⟨by rw [hQ]; exact hPs32, ((zu_ne (by omega)).trans ((zsp_398 (by omega) (by omega)).trans ((zu_ne (by omega)).trans ((zsp_398 (by omega) (by omega)).trans ((zu_ne (by omega)).trans (zu_same _ _ _ _)))))), by rw [hkn]; exact ((zu_ne (by omega)).trans ((zsp_row (by omega) _).trans ((zu_ne (by omega)).trans ((zsp_row (by omega) _).trans (zu_same _ _ _ _))))), fun hq j j0 j1 => ?_, fun i h1 h2 => ?_, fun j h1 h2 h3 => ?_, fun j h => ?_⟩
                  · rw [hQ] at hq; rw [hkn] at j1; unfold zka; rw [hkn]
                    have j1 : j < 2 := j1
                    have hj : j = 0 ∨ j = 1 := by omega
                    rcases hj with rfl | rfl
                    · exact (((zu_ne (by omega)).trans ((zsp_row (by omega) _).trans (zu_at (by omega) (by omega))))).trans (if_pos (zfw_ge (zst_ge hq)))
                    · exact ((zu_at (by omega) (by omega))).trans (if_pos hq)
                  · rw [zu_row (by omega), zsp_rw (by omega), zu_row (by omega), zsp_rw (by omega), zu_row (by omega), zu_row (by omega)]
                  · rw [zu_ne (by omega), zsp_398 (by omega) (by omega), zu_ne (by omega), zsp_398 (by omega) (by omega), zu_ne (by omega), zu_ne (by omega)]
                  · rw [zu_ne (by omega), zsp_row (by omega) _, zu_ne (by omega), zsp_row (by omega) _, zu_ne (by omega), zu_ne (by omega)]
                exact z_vret C0 Wd hret hlk ⟨hRC, rfl⟩ dX12_readCommand_360
            · skip
              refine z_aload_n C0 hl 3 rfl dX12_readCommand_276 ?_
              refine zg_9_17 C0 Wd zN398 zK398 zk_1629 dX12_readCommand_277 ?_
              refine z_iload_n C0 hl 0 rfl dX12_readCommand_280 ?_
              refine z_bipush C0 dX12_readCommand_281 (by decide) ?_
              refine z_iast C0 Wd zN407 zK407 zL407 (by omega) (by omega) (by decide) (zR_mk (by decide) (by decide)) dX12_readCommand_283 (fun H locs Wd => ?_)
              have hPs33 : zPS T n q0 (zu (zu zM0 398 18 ((zM0 398 18) + 1)) 407 (4 * (zM0 398 18)) 108) := zPS_zu hPs12 (by decide) (by omega)
              refine z_aload_n C0 hl 3 rfl dX12_readCommand_284 ?_
              refine zg_9_17 C0 Wd zN398 zK398 zk_1629 dX12_readCommand_285 ?_
              refine z_iload_n C0 hl 0 rfl dX12_readCommand_288 ?_
              refine z_iconst C0 dX12_readCommand_289 ?_
              refine z_iadd C0 dX12_readCommand_290 ?_
              refine z_aload_n C0 hl 3 rfl dX12_readCommand_291 ?_
              refine z_ldcr C0 (zc_r C0 (q := ("DrumWarrenModel", 248, "listen ", 49)) (List.mem_of_getElem? (i := 9) rfl)) dX12_readCommand_292 ?_
              refine z_invVi (As := [.ref (g.2.2.2 49)]) (rest := [.int (zI ((4 * (zM0 398 18)) + 1)), .ref (ad 407)]) C0 Wd (ct_X12_readDigit l g ad (zu (zu zM0 398 18 ((zM0 398 18) + 1)) 407 (4 * (zM0 398 18)) 108) zF0 T n q0 (49, 89, [108, 105, 115, 116, 101, 110, 32]) (List.mem_of_getElem? (i := 17) rfl) ([108, 105, 115, 116, 101, 110, 32]) ztl_49 hPs33 hT (by decide +kernel)) kv_X12_readDigit zN398 (zE_9 zK398) rfl zk_2021 rfl hl.1 rfl (Nat.le_of_ble_eq_true rfl) (by decide) (by decide) dX12_readCommand_294 (fun r34 zMr34 zFr34 H locs hrr34 hp Wd => ?_)
              obtain ⟨rfl, rfl, rfl⟩ := hp
              have hPs36 : zPS T n (zst T n 35 (zfw T n [108, 105, 115, 116, 101, 110, 32] q0)) (zsp (zu (zu zM0 398 18 ((zM0 398 18) + 1)) 407 (4 * (zM0 398 18)) 108) (zst T n 35 (zfw T n [108, 105, 115, 116, 101, 110, 32] q0))) := zPS_sp hPs33 (zst_in (zfw_in [108, 105, 115, 116, 101, 110, 32] hPs33.2.2.2.2.2))
              refine z_iast C0 Wd zN407 zK407 zL407 (by omega) (by omega) (by decide) hrr34 dX12_readCommand_297 (fun H locs Wd => ?_)
              have hPs37 : zPS T n (zst T n 35 (zfw T n [108, 105, 115, 116, 101, 110, 32] q0)) (zu (zsp (zu (zu zM0 398 18 ((zM0 398 18) + 1)) 407 (4 * (zM0 398 18)) 108) (zst T n 35 (zfw T n [108, 105, 115, 116, 101, 110, 32] q0))) 407 ((4 * (zM0 398 18)) + 1) (if 0 ≤ zst T n 35 (zfw T n [108, 105, 115, 116, 101, 110, 32] q0) then znv T n 35 (zfw T n [108, 105, 115, 116, 101, 110, 32] q0) else 0)) := zPS_zu hPs36 (by decide) (by omega)
              refine z_goto C0 (tgt := 360) dX12_readCommand_298 (by decide) ?_
              have hkn : zkn T n q0 = 4 := by unfold zkn; rw [if_neg (by omega), if_neg (by omega), if_neg (by omega), if_pos (by omega)]
              have hQ : zEn T n q0 = (zst T n 35 (zfw T n [108, 105, 115, 116, 101, 110, 32] q0)) := by unfold zEn; rw [hkn]; rfl
              have hRC : zRC T n q0 (zM0 398 18) zM0 (zu (zsp (zu (zu zM0 398 18 ((zM0 398 18) + 1)) 407 (4 * (zM0 398 18)) 108) (zst T n 35 (zfw T n [108, 105, 115, 116, 101, 110, 32] q0))) 407 ((4 * (zM0 398 18)) + 1) (if 0 ≤ zst T n 35 (zfw T n [108, 105, 115, 116, 101, 110, 32] q0) then znv T n 35 (zfw T n [108, 105, 115, 116, 101, 110, 32] q0) else 0)) := by
                refine ⟨by rw [hQ]; exact hPs37, ((zu_ne (by omega)).trans ((zsp_398 (by omega) (by omega)).trans ((zu_ne (by omega)).trans (zu_same _ _ _ _)))), by rw [hkn]; exact ((zu_ne (by omega)).trans ((zsp_row (by omega) _).trans (zu_same _ _ _ _))), fun hq j j0 j1 => ?_, fun i h1 h2 => ?_, fun j h1 h2 h3 => ?_, fun j h => ?_⟩
                · rw [hQ] at hq; rw [hkn] at j1; unfold zka; rw [hkn]
                  have j1 : j < 1 := j1
                  have hj : j = 0 := by omega
                  rcases hj with rfl
                  · exact ((zu_at (by omega) (by omega))).trans (if_pos hq)
                · rw [zu_row (by omega), zsp_rw (by omega), zu_row (by omega), zu_row (by omega)]
                · rw [zu_ne (by omega), zsp_398 (by omega) (by omega), zu_ne (by omega), zu_ne (by omega)]
                · rw [zu_ne (by omega), zsp_row (by omega) _, zu_ne (by omega), zu_ne (by omega)]
              exact z_vret C0 Wd hret hlk ⟨hRC, rfl⟩ dX12_readCommand_360
          · skip
            refine z_aload_n C0 hl 3 rfl dX12_readCommand_245 ?_
            refine zg_9_17 C0 Wd zN398 zK398 zk_1629 dX12_readCommand_246 ?_
            refine z_iload_n C0 hl 0 rfl dX12_readCommand_249 ?_
            refine z_bipush C0 dX12_readCommand_250 (by decide) ?_
            refine z_iast C0 Wd zN407 zK407 zL407 (by omega) (by omega) (by decide) (zR_mk (by decide) (by decide)) dX12_readCommand_252 (fun H locs Wd => ?_)
            have hPs38 : zPS T n q0 (zu (zu zM0 398 18 ((zM0 398 18) + 1)) 407 (4 * (zM0 398 18)) 104) := zPS_zu hPs12 (by decide) (by omega)
            refine z_aload_n C0 hl 3 rfl dX12_readCommand_253 ?_
            refine zg_9_17 C0 Wd zN398 zK398 zk_1629 dX12_readCommand_254 ?_
            refine z_iload_n C0 hl 0 rfl dX12_readCommand_257 ?_
            refine z_iconst C0 dX12_readCommand_258 ?_
            refine z_iadd C0 dX12_readCommand_259 ?_
            refine z_aload_n C0 hl 3 rfl dX12_readCommand_260 ?_
            refine z_ldcr C0 (zc_r C0 (q := ("DrumWarrenModel", 246, "hare ", 48)) (List.mem_of_getElem? (i := 8) rfl)) dX12_readCommand_261 ?_
            refine z_invVi (As := [.ref (g.2.2.2 48)]) (rest := [.int (zI ((4 * (zM0 398 18)) + 1)), .ref (ad 407)]) C0 Wd (ct_X12_readDigit l g ad (zu (zu zM0 398 18 ((zM0 398 18) + 1)) 407 (4 * (zM0 398 18)) 104) zF0 T n q0 (48, 88, [104, 97, 114, 101, 32]) (List.mem_of_getElem? (i := 16) rfl) ([104, 97, 114, 101, 32]) ztl_48 hPs38 hT (by decide +kernel)) kv_X12_readDigit zN398 (zE_9 zK398) rfl zk_2021 rfl hl.1 rfl (Nat.le_of_ble_eq_true rfl) (by decide) (by decide) dX12_readCommand_263 (fun r39 zMr39 zFr39 H locs hrr39 hp Wd => ?_)
            obtain ⟨rfl, rfl, rfl⟩ := hp
            have hPs41 : zPS T n (zst T n 35 (zfw T n [104, 97, 114, 101, 32] q0)) (zsp (zu (zu zM0 398 18 ((zM0 398 18) + 1)) 407 (4 * (zM0 398 18)) 104) (zst T n 35 (zfw T n [104, 97, 114, 101, 32] q0))) := zPS_sp hPs38 (zst_in (zfw_in [104, 97, 114, 101, 32] hPs38.2.2.2.2.2))
            refine z_iast C0 Wd zN407 zK407 zL407 (by omega) (by omega) (by decide) hrr39 dX12_readCommand_266 (fun H locs Wd => ?_)
            have hPs42 : zPS T n (zst T n 35 (zfw T n [104, 97, 114, 101, 32] q0)) (zu (zsp (zu (zu zM0 398 18 ((zM0 398 18) + 1)) 407 (4 * (zM0 398 18)) 104) (zst T n 35 (zfw T n [104, 97, 114, 101, 32] q0))) 407 ((4 * (zM0 398 18)) + 1) (if 0 ≤ zst T n 35 (zfw T n [104, 97, 114, 101, 32] q0) then znv T n 35 (zfw T n [104, 97, 114, 101, 32] q0) else 0)) := zPS_zu hPs41 (by decide) (by omega)
            refine z_goto C0 (tgt := 360) dX12_readCommand_267 (by decide) ?_
            have hkn : zkn T n q0 = 2 := by unfold zkn; rw [if_neg (by omega), if_neg (by omega), if_pos (by omega)]
            have hQ : zEn T n q0 = (zst T n 35 (zfw T n [104, 97, 114, 101, 32] q0)) := by unfold zEn; rw [hkn]; rfl
            have hRC : zRC T n q0 (zM0 398 18) zM0 (zu (zsp (zu (zu zM0 398 18 ((zM0 398 18) + 1)) 407 (4 * (zM0 398 18)) 104) (zst T n 35 (zfw T n [104, 97, 114, 101, 32] q0))) 407 ((4 * (zM0 398 18)) + 1) (if 0 ≤ zst T n 35 (zfw T n [104, 97, 114, 101, 32] q0) then znv T n 35 (zfw T n [104, 97, 114, 101, 32] q0) else 0)) := by
              refine ⟨by rw [hQ]; exact hPs42, ((zu_ne (by omega)).trans ((zsp_398 (by omega) (by omega)).trans ((zu_ne (by omega)).trans (zu_same _ _ _ _)))), by rw [hkn]; exact ((zu_ne (by omega)).trans ((zsp_row (by omega) _).trans (zu_same _ _ _ _))), fun hq j j0 j1 => ?_, fun i h1 h2 => ?_, fun j h1 h2 h3 => ?_, fun j h => ?_⟩
              · rw [hQ] at hq; rw [hkn] at j1; unfold zka; rw [hkn]
                have j1 : j < 1 := j1
                have hj : j = 0 := by omega
                rcases hj with rfl
                · exact ((zu_at (by omega) (by omega))).trans (if_pos hq)
              · rw [zu_row (by omega), zsp_rw (by omega), zu_row (by omega), zu_row (by omega)]
              · rw [zu_ne (by omega), zsp_398 (by omega) (by omega), zu_ne (by omega), zu_ne (by omega)]
              · rw [zu_ne (by omega), zsp_row (by omega) _, zu_ne (by omega), zu_ne (by omega)]
            exact z_vret C0 Wd hret hlk ⟨hRC, rfl⟩ dX12_readCommand_360
        · skip
          refine z_aload_n C0 hl 3 rfl dX12_readCommand_181 ?_
          refine zg_9_17 C0 Wd zN398 zK398 zk_1629 dX12_readCommand_182 ?_
          refine z_iload_n C0 hl 0 rfl dX12_readCommand_185 ?_
          refine z_bipush C0 dX12_readCommand_186 (by decide) ?_
          refine z_iast C0 Wd zN407 zK407 zL407 (by omega) (by omega) (by decide) (zR_mk (by decide) (by decide)) dX12_readCommand_188 (fun H locs Wd => ?_)
          have hPs43 : zPS T n q0 (zu (zu zM0 398 18 ((zM0 398 18) + 1)) 407 (4 * (zM0 398 18)) 115) := zPS_zu hPs12 (by decide) (by omega)
          refine z_aload_n C0 hl 3 rfl dX12_readCommand_189 ?_
          refine zg_9_17 C0 Wd zN398 zK398 zk_1629 dX12_readCommand_190 ?_
          refine z_iload_n C0 hl 0 rfl dX12_readCommand_193 ?_
          refine z_iconst C0 dX12_readCommand_194 ?_
          refine z_iadd C0 dX12_readCommand_195 ?_
          refine z_aload_n C0 hl 3 rfl dX12_readCommand_196 ?_
          refine z_ldcr C0 (zc_r C0 (q := ("DrumWarrenModel", 240, "say ", 45)) (List.mem_of_getElem? (i := 5) rfl)) dX12_readCommand_197 ?_
          refine z_invVi (As := [.ref (g.2.2.2 45)]) (rest := [.int (zI ((4 * (zM0 398 18)) + 1)), .ref (ad 407)]) C0 Wd (ct_X12_readDigit l g ad (zu (zu zM0 398 18 ((zM0 398 18) + 1)) 407 (4 * (zM0 398 18)) 115) zF0 T n q0 (45, 85, [115, 97, 121, 32]) (List.mem_of_getElem? (i := 13) rfl) ([115, 97, 121, 32]) ztl_45 hPs43 hT (by decide +kernel)) kv_X12_readDigit zN398 (zE_9 zK398) rfl zk_2021 rfl hl.1 rfl (Nat.le_of_ble_eq_true rfl) (by decide) (by decide) dX12_readCommand_199 (fun r44 zMr44 zFr44 H locs hrr44 hp Wd => ?_)
          obtain ⟨rfl, rfl, rfl⟩ := hp
          have hPs46 : zPS T n (zst T n 35 (zfw T n [115, 97, 121, 32] q0)) (zsp (zu (zu zM0 398 18 ((zM0 398 18) + 1)) 407 (4 * (zM0 398 18)) 115) (zst T n 35 (zfw T n [115, 97, 121, 32] q0))) := zPS_sp hPs43 (zst_in (zfw_in [115, 97, 121, 32] hPs43.2.2.2.2.2))
          refine z_iast C0 Wd zN407 zK407 zL407 (by omega) (by omega) (by decide) hrr44 dX12_readCommand_202 (fun H locs Wd => ?_)
          have hPs47 : zPS T n (zst T n 35 (zfw T n [115, 97, 121, 32] q0)) (zu (zsp (zu (zu zM0 398 18 ((zM0 398 18) + 1)) 407 (4 * (zM0 398 18)) 115) (zst T n 35 (zfw T n [115, 97, 121, 32] q0))) 407 ((4 * (zM0 398 18)) + 1) (if 0 ≤ zst T n 35 (zfw T n [115, 97, 121, 32] q0) then znv T n 35 (zfw T n [115, 97, 121, 32] q0) else 0)) := zPS_zu hPs46 (by decide) (by omega)
          refine z_aload_n C0 hl 3 rfl dX12_readCommand_203 ?_
          refine zg_9_17 C0 Wd zN398 zK398 zk_1629 dX12_readCommand_204 ?_
          refine z_iload_n C0 hl 0 rfl dX12_readCommand_207 ?_
          refine z_iconst C0 dX12_readCommand_208 ?_
          refine z_iadd C0 dX12_readCommand_209 ?_
          refine z_aload_n C0 hl 3 rfl dX12_readCommand_210 ?_
          refine z_ldcr C0 (zc_r C0 (q := ("DrumWarrenModel", 242, ">", 46)) (List.mem_of_getElem? (i := 6) rfl)) dX12_readCommand_211 ?_
          refine z_invVi (As := [.ref (g.2.2.2 46)]) (rest := [.int (zI ((4 * (zM0 398 18)) + 2)), .ref (ad 407)]) C0 Wd (ct_X12_readDigit l g ad (zu (zsp (zu (zu zM0 398 18 ((zM0 398 18) + 1)) 407 (4 * (zM0 398 18)) 115) (zst T n 35 (zfw T n [115, 97, 121, 32] q0))) 407 ((4 * (zM0 398 18)) + 1) (if 0 ≤ zst T n 35 (zfw T n [115, 97, 121, 32] q0) then znv T n 35 (zfw T n [115, 97, 121, 32] q0) else 0)) zF0 T n (zst T n 35 (zfw T n [115, 97, 121, 32] q0)) (46, 86, [62]) (List.mem_of_getElem? (i := 14) rfl) ([62]) ztl_46 hPs47 hT (by decide +kernel)) kv_X12_readDigit zN398 (zE_9 zK398) rfl zk_2021 rfl hl.1 rfl (Nat.le_of_ble_eq_true rfl) (by decide) (by decide) dX12_readCommand_213 (fun r48 zMr48 zFr48 H locs hrr48 hp Wd => ?_)
          obtain ⟨rfl, rfl, rfl⟩ := hp
          have hPs50 : zPS T n (zst T n 35 (zfw T n [62] (zst T n 35 (zfw T n [115, 97, 121, 32] q0)))) (zsp (zu (zsp (zu (zu zM0 398 18 ((zM0 398 18) + 1)) 407 (4 * (zM0 398 18)) 115) (zst T n 35 (zfw T n [115, 97, 121, 32] q0))) 407 ((4 * (zM0 398 18)) + 1) (if 0 ≤ zst T n 35 (zfw T n [115, 97, 121, 32] q0) then znv T n 35 (zfw T n [115, 97, 121, 32] q0) else 0)) (zst T n 35 (zfw T n [62] (zst T n 35 (zfw T n [115, 97, 121, 32] q0))))) := zPS_sp hPs47 (zst_in (zfw_in [62] hPs47.2.2.2.2.2))
          refine z_iast C0 Wd zN407 zK407 zL407 (by omega) (by omega) (by decide) hrr48 dX12_readCommand_216 (fun H locs Wd => ?_)
          have hPs51 : zPS T n (zst T n 35 (zfw T n [62] (zst T n 35 (zfw T n [115, 97, 121, 32] q0)))) (zu (zsp (zu (zsp (zu (zu zM0 398 18 ((zM0 398 18) + 1)) 407 (4 * (zM0 398 18)) 115) (zst T n 35 (zfw T n [115, 97, 121, 32] q0))) 407 ((4 * (zM0 398 18)) + 1) (if 0 ≤ zst T n 35 (zfw T n [115, 97, 121, 32] q0) then znv T n 35 (zfw T n [115, 97, 121, 32] q0) else 0)) (zst T n 35 (zfw T n [62] (zst T n 35 (zfw T n [115, 97, 121, 32] q0))))) 407 ((4 * (zM0 398 18)) + 2) (if 0 ≤ zst T n 35 (zfw T n [62] (zst T n 35 (zfw T n [115, 97, 121, 32] q0))) then znv T n 35 (zfw T n [62] (zst T n 35 (zfw T n [115, 97, 121, 32] q0))) else 0)) := zPS_zu hPs50 (by decide) (by omega)
          refine z_aload_n C0 hl 3 rfl dX12_readCommand_217 ?_
          refine z_ldcr C0 (zc_r C0 (q := ("DrumWarrenModel", 244, "=", 47)) (List.mem_of_getElem? (i := 7) rfl)) dX12_readCommand_218 ?_
          refine z_invVv (As := [.ref (g.2.2.2 47)]) (rest := []) C0 Wd (ct_X12_skip l g ad (zu (zsp (zu (zsp (zu (zu zM0 398 18 ((zM0 398 18) + 1)) 407 (4 * (zM0 398 18)) 115) (zst T n 35 (zfw T n [115, 97, 121, 32] q0))) 407 ((4 * (zM0 398 18)) + 1) (if 0 ≤ zst T n 35 (zfw T n [115, 97, 121, 32] q0) then znv T n 35 (zfw T n [115, 97, 121, 32] q0) else 0)) (zst T n 35 (zfw T n [62] (zst T n 35 (zfw T n [115, 97, 121, 32] q0))))) 407 ((4 * (zM0 398 18)) + 2) (if 0 ≤ zst T n 35 (zfw T n [62] (zst T n 35 (zfw T n [115, 97, 121, 32] q0))) then znv T n 35 (zfw T n [62] (zst T n 35 (zfw T n [115, 97, 121, 32] q0))) else 0)) zF0 T n (zst T n 35 (zfw T n [62] (zst T n 35 (zfw T n [115, 97, 121, 32] q0)))) (47, 87, [61]) (List.mem_of_getElem? (i := 15) rfl) ([61]) ztl_47 hPs51 hT (by decide +kernel)) kv_X12_skip zN398 (zE_9 zK398) rfl zk_2025 rfl hl.1 rfl (Nat.le_of_ble_eq_true rfl) (by decide) (by decide) dX12_readCommand_220 (fun zMr52 zFr52 H locs hp Wd => ?_)
          obtain ⟨rfl, rfl⟩ := hp
          have hPs54 : zPS T n (zfw T n [61] (zst T n 35 (zfw T n [62] (zst T n 35 (zfw T n [115, 97, 121, 32] q0))))) (zsp (zu (zsp (zu (zsp (zu (zu zM0 398 18 ((zM0 398 18) + 1)) 407 (4 * (zM0 398 18)) 115) (zst T n 35 (zfw T n [115, 97, 121, 32] q0))) 407 ((4 * (zM0 398 18)) + 1) (if 0 ≤ zst T n 35 (zfw T n [115, 97, 121, 32] q0) then znv T n 35 (zfw T n [115, 97, 121, 32] q0) else 0)) (zst T n 35 (zfw T n [62] (zst T n 35 (zfw T n [115, 97, 121, 32] q0))))) 407 ((4 * (zM0 398 18)) + 2) (if 0 ≤ zst T n 35 (zfw T n [62] (zst T n 35 (zfw T n [115, 97, 121, 32] q0))) then znv T n 35 (zfw T n [62] (zst T n 35 (zfw T n [115, 97, 121, 32] q0))) else 0)) (zfw T n [61] (zst T n 35 (zfw T n [62] (zst T n 35 (zfw T n [115, 97, 121, 32] q0)))))) := zPS_sp hPs51 (zfw_in [61] hPs51.2.2.2.2.2)
          refine z_aload_n C0 hl 3 rfl dX12_readCommand_223 ?_
          refine zg_9_17 C0 Wd zN398 zK398 zk_1629 dX12_readCommand_224 ?_
          refine z_iload_n C0 hl 0 rfl dX12_readCommand_227 ?_
          refine z_iconst C0 dX12_readCommand_228 ?_
          refine z_iadd C0 dX12_readCommand_229 ?_
          refine z_aload_n C0 hl 3 rfl dX12_readCommand_230 ?_
          refine z_iconst C0 dX12_readCommand_231 ?_
          refine z_invVi (As := [.int (zI 2)]) (rest := [.int (zI ((4 * (zM0 398 18)) + 3)), .ref (ad 407)]) C0 Wd (ct_X12_readNumber_2 l g ad (zsp (zu (zsp (zu (zsp (zu (zu zM0 398 18 ((zM0 398 18) + 1)) 407 (4 * (zM0 398 18)) 115) (zst T n 35 (zfw T n [115, 97, 121, 32] q0))) 407 ((4 * (zM0 398 18)) + 1) (if 0 ≤ zst T n 35 (zfw T n [115, 97, 121, 32] q0) then znv T n 35 (zfw T n [115, 97, 121, 32] q0) else 0)) (zst T n 35 (zfw T n [62] (zst T n 35 (zfw T n [115, 97, 121, 32] q0))))) 407 ((4 * (zM0 398 18)) + 2) (if 0 ≤ zst T n 35 (zfw T n [62] (zst T n 35 (zfw T n [115, 97, 121, 32] q0))) then znv T n 35 (zfw T n [62] (zst T n 35 (zfw T n [115, 97, 121, 32] q0))) else 0)) (zfw T n [61] (zst T n 35 (zfw T n [62] (zst T n 35 (zfw T n [115, 97, 121, 32] q0)))))) zF0 T n (zfw T n [61] (zst T n 35 (zfw T n [62] (zst T n 35 (zfw T n [115, 97, 121, 32] q0))))) 2 (zR_mk (by decide) (by decide)) hPs54 hT (by omega)) kv_X12_readNumber zN398 (zE_9 zK398) rfl zk_2031 rfl hl.1 rfl (Nat.le_of_ble_eq_true rfl) (by decide) (by decide) dX12_readCommand_232 (fun r55 zMr55 zFr55 H locs hrr55 hp Wd => ?_)
          obtain ⟨rfl, rfl, rfl⟩ := hp
          have hPs57 : zPS T n (zst T n 37 (zfw T n [61] (zst T n 35 (zfw T n [62] (zst T n 35 (zfw T n [115, 97, 121, 32] q0)))))) (zsp (zsp (zu (zsp (zu (zsp (zu (zu zM0 398 18 ((zM0 398 18) + 1)) 407 (4 * (zM0 398 18)) 115) (zst T n 35 (zfw T n [115, 97, 121, 32] q0))) 407 ((4 * (zM0 398 18)) + 1) (if 0 ≤ zst T n 35 (zfw T n [115, 97, 121, 32] q0) then znv T n 35 (zfw T n [115, 97, 121, 32] q0) else 0)) (zst T n 35 (zfw T n [62] (zst T n 35 (zfw T n [115, 97, 121, 32] q0))))) 407 ((4 * (zM0 398 18)) + 2) (if 0 ≤ zst T n 35 (zfw T n [62] (zst T n 35 (zfw T n [115, 97, 121, 32] q0))) then znv T n 35 (zfw T n [62] (zst T n 35 (zfw T n [115, 97, 121, 32] q0))) else 0)) (zfw T n [61] (zst T n 35 (zfw T n [62] (zst T n 35 (zfw T n [115, 97, 121, 32] q0)))))) (zst T n 37 (zfw T n [61] (zst T n 35 (zfw T n [62] (zst T n 35 (zfw T n [115, 97, 121, 32] q0))))))) := zPS_sp hPs54 (zst_in hPs54.2.2.2.2.2)
          refine z_iast C0 Wd zN407 zK407 zL407 (by omega) (by omega) (by decide) hrr55 dX12_readCommand_235 (fun H locs Wd => ?_)
          have hPs58 : zPS T n (zst T n 37 (zfw T n [61] (zst T n 35 (zfw T n [62] (zst T n 35 (zfw T n [115, 97, 121, 32] q0)))))) (zu (zsp (zsp (zu (zsp (zu (zsp (zu (zu zM0 398 18 ((zM0 398 18) + 1)) 407 (4 * (zM0 398 18)) 115) (zst T n 35 (zfw T n [115, 97, 121, 32] q0))) 407 ((4 * (zM0 398 18)) + 1) (if 0 ≤ zst T n 35 (zfw T n [115, 97, 121, 32] q0) then znv T n 35 (zfw T n [115, 97, 121, 32] q0) else 0)) (zst T n 35 (zfw T n [62] (zst T n 35 (zfw T n [115, 97, 121, 32] q0))))) 407 ((4 * (zM0 398 18)) + 2) (if 0 ≤ zst T n 35 (zfw T n [62] (zst T n 35 (zfw T n [115, 97, 121, 32] q0))) then znv T n 35 (zfw T n [62] (zst T n 35 (zfw T n [115, 97, 121, 32] q0))) else 0)) (zfw T n [61] (zst T n 35 (zfw T n [62] (zst T n 35 (zfw T n [115, 97, 121, 32] q0)))))) (zst T n 37 (zfw T n [61] (zst T n 35 (zfw T n [62] (zst T n 35 (zfw T n [115, 97, 121, 32] q0))))))) 407 ((4 * (zM0 398 18)) + 3) (if 0 ≤ zst T n 37 (zfw T n [61] (zst T n 35 (zfw T n [62] (zst T n 35 (zfw T n [115, 97, 121, 32] q0))))) then znv T n 37 (zfw T n [61] (zst T n 35 (zfw T n [62] (zst T n 35 (zfw T n [115, 97, 121, 32] q0))))) else 0)) := zPS_zu hPs57 (by decide) (by omega)
          refine z_goto C0 (tgt := 360) dX12_readCommand_236 (by decide) ?_
          have hkn : zkn T n q0 = 3 := by unfold zkn; rw [if_neg (by omega), if_pos (by omega), if_neg (by omega)]
          have hQ : zEn T n q0 = (zst T n 37 (zfw T n [61] (zst T n 35 (zfw T n [62] (zst T n 35 (zfw T n [115, 97, 121, 32] q0)))))) := by unfold zEn; rw [hkn]; rfl
          have hRC : zRC T n q0 (zM0 398 18) zM0 (zu (zsp (zsp (zu (zsp (zu (zsp (zu (zu zM0 398 18 ((zM0 398 18) + 1)) 407 (4 * (zM0 398 18)) 115) (zst T n 35 (zfw T n [115, 97, 121, 32] q0))) 407 ((4 * (zM0 398 18)) + 1) (if 0 ≤ zst T n 35 (zfw T n [115, 97, 121, 32] q0) then znv T n 35 (zfw T n [115, 97, 121, 32] q0) else 0)) (zst T n 35 (zfw T n [62] (zst T n 35 (zfw T n [115, 97, 121, 32] q0))))) 407 ((4 * (zM0 398 18)) + 2) (if 0 ≤ zst T n 35 (zfw T n [62] (zst T n 35 (zfw T n [115, 97, 121, 32] q0))) then znv T n 35 (zfw T n [62] (zst T n 35 (zfw T n [115, 97, 121, 32] q0))) else 0)) (zfw T n [61] (zst T n 35 (zfw T n [62] (zst T n 35 (zfw T n [115, 97, 121, 32] q0)))))) (zst T n 37 (zfw T n [61] (zst T n 35 (zfw T n [62] (zst T n 35 (zfw T n [115, 97, 121, 32] q0))))))) 407 ((4 * (zM0 398 18)) + 3) (if 0 ≤ zst T n 37 (zfw T n [61] (zst T n 35 (zfw T n [62] (zst T n 35 (zfw T n [115, 97, 121, 32] q0))))) then znv T n 37 (zfw T n [61] (zst T n 35 (zfw T n [62] (zst T n 35 (zfw T n [115, 97, 121, 32] q0))))) else 0)) := by
            refine ⟨by rw [hQ]; exact hPs58, ((zu_ne (by omega)).trans ((zsp_398 (by omega) (by omega)).trans ((zsp_398 (by omega) (by omega)).trans ((zu_ne (by omega)).trans ((zsp_398 (by omega) (by omega)).trans ((zu_ne (by omega)).trans ((zsp_398 (by omega) (by omega)).trans ((zu_ne (by omega)).trans (zu_same _ _ _ _))))))))), by rw [hkn]; exact ((zu_ne (by omega)).trans ((zsp_row (by omega) _).trans ((zsp_row (by omega) _).trans ((zu_ne (by omega)).trans ((zsp_row (by omega) _).trans ((zu_ne (by omega)).trans ((zsp_row (by omega) _).trans (zu_same _ _ _ _)))))))), fun hq j j0 j1 => ?_, fun i h1 h2 => ?_, fun j h1 h2 h3 => ?_, fun j h => ?_⟩
            · rw [hQ] at hq; rw [hkn] at j1; unfold zka; rw [hkn]
              have j1 : j < 3 := j1
              have hj : j = 0 ∨ j = 1 ∨ j = 2 := by omega
              rcases hj with rfl | rfl | rfl
              · exact (((zu_ne (by omega)).trans ((zsp_row (by omega) _).trans ((zsp_row (by omega) _).trans ((zu_ne (by omega)).trans ((zsp_row (by omega) _).trans (zu_at (by omega) (by omega)))))))).trans (if_pos (zfw_ge (zst_ge (zfw_ge (zst_ge hq)))))
              · exact (((zu_ne (by omega)).trans ((zsp_row (by omega) _).trans ((zsp_row (by omega) _).trans (zu_at (by omega) (by omega)))))).trans (if_pos (zfw_ge (zst_ge hq)))
              · exact ((zu_at (by omega) (by omega))).trans (if_pos hq)
            · rw [zu_row (by omega), zsp_rw (by omega), zsp_rw (by omega), zu_row (by omega), zsp_rw (by omega), zu_row (by omega), zsp_rw (by omega), zu_row (by omega), zu_row (by omega)]
            · rw [zu_ne (by omega), zsp_398 (by omega) (by omega), zsp_398 (by omega) (by omega), zu_ne (by omega), zsp_398 (by omega) (by omega), zu_ne (by omega), zsp_398 (by omega) (by omega), zu_ne (by omega), zu_ne (by omega)]
            · rw [zu_ne (by omega), zsp_row (by omega) _, zsp_row (by omega) _, zu_ne (by omega), zsp_row (by omega) _, zu_ne (by omega), zsp_row (by omega) _, zu_ne (by omega), zu_ne (by omega)]
          exact z_vret C0 Wd hret hlk ⟨hRC, rfl⟩ dX12_readCommand_360
      · skip
        refine z_iload_n C0 hl 1 rfl dX12_readCommand_144 ?_
        refine z_bipush C0 dX12_readCommand_145 (by decide) ?_
        refine z_icmp_ne C0 (tgt := 175) hbqs (zR_mk (by decide) (by decide)) dX12_readCommand_147 (by decide) (fun c59 => ?_) (fun c59 => ?_)
        · skip
          refine z_iload_n C0 hl 2 rfl dX12_readCommand_175 ?_
          refine z_bipush C0 dX12_readCommand_176 (by decide) ?_
          refine z_icmp_ne C0 (tgt := 239) hbqf (zR_mk (by decide) (by decide)) dX12_readCommand_178 (by decide) (fun c60 => ?_) (fun c60 => ?_)
          · skip
            refine z_iload_n C0 hl 2 rfl dX12_readCommand_239 ?_
            refine z_bipush C0 dX12_readCommand_240 (by decide) ?_
            refine z_icmp_ne C0 (tgt := 270) hbqf (zR_mk (by decide) (by decide)) dX12_readCommand_242 (by decide) (fun c61 => ?_) (fun c61 => ?_)
            · skip
              refine z_iload_n C0 hl 2 rfl dX12_readCommand_270 ?_
              refine z_bipush C0 dX12_readCommand_271 (by decide) ?_
              refine z_icmp_ne C0 (tgt := 301) hbqf (zR_mk (by decide) (by decide)) dX12_readCommand_273 (by decide) (fun c62 => ?_) (fun c62 => ?_)
              · skip
                refine z_iload_n C0 hl 2 rfl dX12_readCommand_301 ?_
                refine z_bipush C0 dX12_readCommand_302 (by decide) ?_
                refine z_icmp_ne C0 (tgt := 346) hbqf (zR_mk (by decide) (by decide)) dX12_readCommand_304 (by decide) (fun c63 => ?_) (fun c63 => ?_)
                · skip
                  refine z_aload_n C0 hl 3 rfl dX12_readCommand_346 ?_
                  refine zg_9_17 C0 Wd zN398 zK398 zk_1629 dX12_readCommand_347 ?_
                  refine z_iload_n C0 hl 0 rfl dX12_readCommand_350 ?_
                  refine z_bipush C0 dX12_readCommand_351 (by decide) ?_
                  refine z_iast C0 Wd zN407 zK407 zL407 (by omega) (by omega) (by decide) (zR_mk (by decide) (by decide)) dX12_readCommand_353 (fun H locs Wd => ?_)
                  have hPs64 : zPS T n q0 (zu (zu zM0 398 18 ((zM0 398 18) + 1)) 407 (4 * (zM0 398 18)) 99) := zPS_zu hPs12 (by decide) (by omega)
                  refine z_aload_n C0 hl 3 rfl dX12_readCommand_354 ?_
                  refine z_ldcr C0 (zc_r C0 (q := ("DrumWarrenModel", 254, "chamber", 52)) (List.mem_of_getElem? (i := 12) rfl)) dX12_readCommand_355 ?_
                  refine z_invVv (As := [.ref (g.2.2.2 52)]) (rest := []) C0 Wd (ct_X12_skip l g ad (zu (zu zM0 398 18 ((zM0 398 18) + 1)) 407 (4 * (zM0 398 18)) 99) zF0 T n q0 (52, 92, [99, 104, 97, 109, 98, 101, 114]) (List.mem_of_getElem? (i := 20) rfl) ([99, 104, 97, 109, 98, 101, 114]) ztl_52 hPs64 hT (by decide +kernel)) kv_X12_skip zN398 (zE_9 zK398) rfl zk_2025 rfl hl.1 rfl (Nat.le_of_ble_eq_true rfl) (by decide) (by decide) dX12_readCommand_357 (fun zMr65 zFr65 H locs hp Wd => ?_)
                  obtain ⟨rfl, rfl⟩ := hp
                  have hPs67 : zPS T n (zfw T n [99, 104, 97, 109, 98, 101, 114] q0) (zsp (zu (zu zM0 398 18 ((zM0 398 18) + 1)) 407 (4 * (zM0 398 18)) 99) (zfw T n [99, 104, 97, 109, 98, 101, 114] q0)) := zPS_sp hPs64 (zfw_in [99, 104, 97, 109, 98, 101, 114] hPs64.2.2.2.2.2)
                  have hkn : zkn T n q0 = 0 := by unfold zkn; rw [if_neg (by omega), if_neg (by omega), if_neg (by omega), if_neg (by omega), if_neg (by omega)]
                  have hQ : zEn T n q0 = (zfw T n [99, 104, 97, 109, 98, 101, 114] q0) := by unfold zEn; rw [hkn]; rfl
                  have hRC : zRC T n q0 (zM0 398 18) zM0 (zsp (zu (zu zM0 398 18 ((zM0 398 18) + 1)) 407 (4 * (zM0 398 18)) 99) (zfw T n [99, 104, 97, 109, 98, 101, 114] q0)) := by
                    refine ⟨by rw [hQ]; exact hPs67, ((zsp_398 (by omega) (by omega)).trans ((zu_ne (by omega)).trans (zu_same _ _ _ _))), by rw [hkn]; exact ((zsp_row (by omega) _).trans (zu_same _ _ _ _)), fun hq j j0 j1 => ?_, fun i h1 h2 => ?_, fun j h1 h2 h3 => ?_, fun j h => ?_⟩
                    · rw [hQ] at hq; rw [hkn] at j1; unfold zka; rw [hkn]
                      exact absurd j1 (by show ¬ j < 0; omega)
                    · rw [zsp_rw (by omega), zu_row (by omega), zu_row (by omega)]
                    · rw [zsp_398 (by omega) (by omega), zu_ne (by omega), zu_ne (by omega)]
                    · rw [zsp_row (by omega) _, zu_ne (by omega), zu_ne (by omega)]
                  exact z_vret C0 Wd hret hlk ⟨hRC, rfl⟩ dX12_readCommand_360
                · skip
                  refine z_aload_n C0 hl 3 rfl dX12_readCommand_307 ?_
                  refine zg_9_17 C0 Wd zN398 zK398 zk_1629 dX12_readCommand_308 ?_
                  refine z_iload_n C0 hl 0 rfl dX12_readCommand_311 ?_
                  refine z_bipush C0 dX12_readCommand_312 (by decide) ?_
                  refine z_iast C0 Wd zN407 zK407 zL407 (by omega) (by omega) (by decide) (zR_mk (by decide) (by decide)) dX12_readCommand_314 (fun H locs Wd => ?_)
                  have hPs68 : zPS T n q0 (zu (zu zM0 398 18 ((zM0 398 18) + 1)) 407 (4 * (zM0 398 18)) 103) := zPS_zu hPs12 (by decide) (by omega)
                  refine z_aload_n C0 hl 3 rfl dX12_readCommand_315 ?_
                  refine zg_9_17 C0 Wd zN398 zK398 zk_1629 dX12_readCommand_316 ?_
                  refine z_iload_n C0 hl 0 rfl dX12_readCommand_319 ?_
                  refine z_iconst C0 dX12_readCommand_320 ?_
                  refine z_iadd C0 dX12_readCommand_321 ?_
                  refine z_aload_n C0 hl 3 rfl dX12_readCommand_322 ?_
                  refine z_ldcr C0 (zc_r C0 (q := ("DrumWarrenModel", 250, "go ", 50)) (List.mem_of_getElem? (i := 10) rfl)) dX12_readCommand_323 ?_
                  refine z_invVi (As := [.ref (g.2.2.2 50)]) (rest := [.int (zI ((4 * (zM0 398 18)) + 1)), .ref (ad 407)]) C0 Wd (ct_X12_readDigit l g ad (zu (zu zM0 398 18 ((zM0 398 18) + 1)) 407 (4 * (zM0 398 18)) 103) zF0 T n q0 (50, 90, [103, 111, 32]) (List.mem_of_getElem? (i := 18) rfl) ([103, 111, 32]) ztl_50 hPs68 hT (by decide +kernel)) kv_X12_readDigit zN398 (zE_9 zK398) rfl zk_2021 rfl hl.1 rfl (Nat.le_of_ble_eq_true rfl) (by decide) (by decide) dX12_readCommand_325 (fun r69 zMr69 zFr69 H locs hrr69 hp Wd => ?_)
                  obtain ⟨rfl, rfl, rfl⟩ := hp
                  have hPs71 : zPS T n (zst T n 35 (zfw T n [103, 111, 32] q0)) (zsp (zu (zu zM0 398 18 ((zM0 398 18) + 1)) 407 (4 * (zM0 398 18)) 103) (zst T n 35 (zfw T n [103, 111, 32] q0))) := zPS_sp hPs68 (zst_in (zfw_in [103, 111, 32] hPs68.2.2.2.2.2))
                  refine z_iast C0 Wd zN407 zK407 zL407 (by omega) (by omega) (by decide) hrr69 dX12_readCommand_328 (fun H locs Wd => ?_)
                  have hPs72 : zPS T n (zst T n 35 (zfw T n [103, 111, 32] q0)) (zu (zsp (zu (zu zM0 398 18 ((zM0 398 18) + 1)) 407 (4 * (zM0 398 18)) 103) (zst T n 35 (zfw T n [103, 111, 32] q0))) 407 ((4 * (zM0 398 18)) + 1) (if 0 ≤ zst T n 35 (zfw T n [103, 111, 32] q0) then znv T n 35 (zfw T n [103, 111, 32] q0) else 0)) := zPS_zu hPs71 (by decide) (by omega)
                  refine z_aload_n C0 hl 3 rfl dX12_readCommand_329 ?_
                  refine zg_9_17 C0 Wd zN398 zK398 zk_1629 dX12_readCommand_330 ?_
                  refine z_iload_n C0 hl 0 rfl dX12_readCommand_333 ?_
                  refine z_iconst C0 dX12_readCommand_334 ?_
                  refine z_iadd C0 dX12_readCommand_335 ?_
                  refine z_aload_n C0 hl 3 rfl dX12_readCommand_336 ?_
                  refine z_ldcr C0 (zc_r C0 (q := ("DrumWarrenModel", 252, "@", 51)) (List.mem_of_getElem? (i := 11) rfl)) dX12_readCommand_337 ?_
                  refine z_invVi (As := [.ref (g.2.2.2 51)]) (rest := [.int (zI ((4 * (zM0 398 18)) + 2)), .ref (ad 407)]) C0 Wd (ct_X12_readDigit l g ad (zu (zsp (zu (zu zM0 398 18 ((zM0 398 18) + 1)) 407 (4 * (zM0 398 18)) 103) (zst T n 35 (zfw T n [103, 111, 32] q0))) 407 ((4 * (zM0 398 18)) + 1) (if 0 ≤ zst T n 35 (zfw T n [103, 111, 32] q0) then znv T n 35 (zfw T n [103, 111, 32] q0) else 0)) zF0 T n (zst T n 35 (zfw T n [103, 111, 32] q0)) (51, 91, [64]) (List.mem_of_getElem? (i := 19) rfl) ([64]) ztl_51 hPs72 hT (by decide +kernel)) kv_X12_readDigit zN398 (zE_9 zK398) rfl zk_2021 rfl hl.1 rfl (Nat.le_of_ble_eq_true rfl) (by decide) (by decide) dX12_readCommand_339 (fun r73 zMr73 zFr73 H locs hrr73 hp Wd => ?_)
                  obtain ⟨rfl, rfl, rfl⟩ := hp
                  have hPs75 : zPS T n (zst T n 35 (zfw T n [64] (zst T n 35 (zfw T n [103, 111, 32] q0)))) (zsp (zu (zsp (zu (zu zM0 398 18 ((zM0 398 18) + 1)) 407 (4 * (zM0 398 18)) 103) (zst T n 35 (zfw T n [103, 111, 32] q0))) 407 ((4 * (zM0 398 18)) + 1) (if 0 ≤ zst T n 35 (zfw T n [103, 111, 32] q0) then znv T n 35 (zfw T n [103, 111, 32] q0) else 0)) (zst T n 35 (zfw T n [64] (zst T n 35 (zfw T n [103, 111, 32] q0))))) := zPS_sp hPs72 (zst_in (zfw_in [64] hPs72.2.2.2.2.2))
                  refine z_iast C0 Wd zN407 zK407 zL407 (by omega) (by omega) (by decide) hrr73 dX12_readCommand_342 (fun H locs Wd => ?_)
                  have hPs76 : zPS T n (zst T n 35 (zfw T n [64] (zst T n 35 (zfw T n [103, 111, 32] q0)))) (zu (zsp (zu (zsp (zu (zu zM0 398 18 ((zM0 398 18) + 1)) 407 (4 * (zM0 398 18)) 103) (zst T n 35 (zfw T n [103, 111, 32] q0))) 407 ((4 * (zM0 398 18)) + 1) (if 0 ≤ zst T n 35 (zfw T n [103, 111, 32] q0) then znv T n 35 (zfw T n [103, 111, 32] q0) else 0)) (zst T n 35 (zfw T n [64] (zst T n 35 (zfw T n [103, 111, 32] q0))))) 407 ((4 * (zM0 398 18)) + 2) (if 0 ≤ zst T n 35 (zfw T n [64] (zst T n 35 (zfw T n [103, 111, 32] q0))) then znv T n 35 (zfw T n [64] (zst T n 35 (zfw T n [103, 111, 32] q0))) else 0)) := zPS_zu hPs75 (by decide) (by omega)
                  refine z_goto C0 (tgt := 360) dX12_readCommand_343 (by decide) ?_
                  have hkn : zkn T n q0 = 6 := by unfold zkn; rw [if_neg (by omega), if_neg (by omega), if_neg (by omega), if_neg (by omega), if_pos (by omega)]
                  have hQ : zEn T n q0 = (zst T n 35 (zfw T n [64] (zst T n 35 (zfw T n [103, 111, 32] q0)))) := by unfold zEn; rw [hkn]; rfl
                  have hRC : zRC T n q0 (zM0 398 18) zM0 (zu (zsp (zu (zsp (zu (zu zM0 398 18 ((zM0 398 18) + 1)) 407 (4 * (zM0 398 18)) 103) (zst T n 35 (zfw T n [103, 111, 32] q0))) 407 ((4 * (zM0 398 18)) + 1) (if 0 ≤ zst T n 35 (zfw T n [103, 111, 32] q0) then znv T n 35 (zfw T n [103, 111, 32] q0) else 0)) (zst T n 35 (zfw T n [64] (zst T n 35 (zfw T n [103, 111, 32] q0))))) 407 ((4 * (zM0 398 18)) + 2) (if 0 ≤ zst T n 35 (zfw T n [64] (zst T n 35 (zfw T n [103, 111, 32] q0))) then znv T n 35 (zfw T n [64] (zst T n 35 (zfw T n [103, 111, 32] q0))) else 0)) := by
                    refine ⟨by rw [hQ]; exact hPs76, ((zu_ne (by omega)).trans ((zsp_398 (by omega) (by omega)).trans ((zu_ne (by omega)).trans ((zsp_398 (by omega) (by omega)).trans ((zu_ne (by omega)).trans (zu_same _ _ _ _)))))), by rw [hkn]; exact ((zu_ne (by omega)).trans ((zsp_row (by omega) _).trans ((zu_ne (by omega)).trans ((zsp_row (by omega) _).trans (zu_same _ _ _ _))))), fun hq j j0 j1 => ?_, fun i h1 h2 => ?_, fun j h1 h2 h3 => ?_, fun j h => ?_⟩
                    · rw [hQ] at hq; rw [hkn] at j1; unfold zka; rw [hkn]
                      have j1 : j < 2 := j1
                      have hj : j = 0 ∨ j = 1 := by omega
                      rcases hj with rfl | rfl
                      · exact (((zu_ne (by omega)).trans ((zsp_row (by omega) _).trans (zu_at (by omega) (by omega))))).trans (if_pos (zfw_ge (zst_ge hq)))
                      · exact ((zu_at (by omega) (by omega))).trans (if_pos hq)
                    · rw [zu_row (by omega), zsp_rw (by omega), zu_row (by omega), zsp_rw (by omega), zu_row (by omega), zu_row (by omega)]
                    · rw [zu_ne (by omega), zsp_398 (by omega) (by omega), zu_ne (by omega), zsp_398 (by omega) (by omega), zu_ne (by omega), zu_ne (by omega)]
                    · rw [zu_ne (by omega), zsp_row (by omega) _, zu_ne (by omega), zsp_row (by omega) _, zu_ne (by omega), zu_ne (by omega)]
                  exact z_vret C0 Wd hret hlk ⟨hRC, rfl⟩ dX12_readCommand_360
              · skip
                refine z_aload_n C0 hl 3 rfl dX12_readCommand_276 ?_
                refine zg_9_17 C0 Wd zN398 zK398 zk_1629 dX12_readCommand_277 ?_
                refine z_iload_n C0 hl 0 rfl dX12_readCommand_280 ?_
                refine z_bipush C0 dX12_readCommand_281 (by decide) ?_
                refine z_iast C0 Wd zN407 zK407 zL407 (by omega) (by omega) (by decide) (zR_mk (by decide) (by decide)) dX12_readCommand_283 (fun H locs Wd => ?_)
                have hPs77 : zPS T n q0 (zu (zu zM0 398 18 ((zM0 398 18) + 1)) 407 (4 * (zM0 398 18)) 108) := zPS_zu hPs12 (by decide) (by omega)
                refine z_aload_n C0 hl 3 rfl dX12_readCommand_284 ?_
                refine zg_9_17 C0 Wd zN398 zK398 zk_1629 dX12_readCommand_285 ?_
                refine z_iload_n C0 hl 0 rfl dX12_readCommand_288 ?_
                refine z_iconst C0 dX12_readCommand_289 ?_
                refine z_iadd C0 dX12_readCommand_290 ?_
                refine z_aload_n C0 hl 3 rfl dX12_readCommand_291 ?_
                refine z_ldcr C0 (zc_r C0 (q := ("DrumWarrenModel", 248, "listen ", 49)) (List.mem_of_getElem? (i := 9) rfl)) dX12_readCommand_292 ?_
                refine z_invVi (As := [.ref (g.2.2.2 49)]) (rest := [.int (zI ((4 * (zM0 398 18)) + 1)), .ref (ad 407)]) C0 Wd (ct_X12_readDigit l g ad (zu (zu zM0 398 18 ((zM0 398 18) + 1)) 407 (4 * (zM0 398 18)) 108) zF0 T n q0 (49, 89, [108, 105, 115, 116, 101, 110, 32]) (List.mem_of_getElem? (i := 17) rfl) ([108, 105, 115, 116, 101, 110, 32]) ztl_49 hPs77 hT (by decide +kernel)) kv_X12_readDigit zN398 (zE_9 zK398) rfl zk_2021 rfl hl.1 rfl (Nat.le_of_ble_eq_true rfl) (by decide) (by decide) dX12_readCommand_294 (fun r78 zMr78 zFr78 H locs hrr78 hp Wd => ?_)
                obtain ⟨rfl, rfl, rfl⟩ := hp
                have hPs80 : zPS T n (zst T n 35 (zfw T n [108, 105, 115, 116, 101, 110, 32] q0)) (zsp (zu (zu zM0 398 18 ((zM0 398 18) + 1)) 407 (4 * (zM0 398 18)) 108) (zst T n 35 (zfw T n [108, 105, 115, 116, 101, 110, 32] q0))) := zPS_sp hPs77 (zst_in (zfw_in [108, 105, 115, 116, 101, 110, 32] hPs77.2.2.2.2.2))
                refine z_iast C0 Wd zN407 zK407 zL407 (by omega) (by omega) (by decide) hrr78 dX12_readCommand_297 (fun H locs Wd => ?_)
                have hPs81 : zPS T n (zst T n 35 (zfw T n [108, 105, 115, 116, 101, 110, 32] q0)) (zu (zsp (zu (zu zM0 398 18 ((zM0 398 18) + 1)) 407 (4 * (zM0 398 18)) 108) (zst T n 35 (zfw T n [108, 105, 115, 116, 101, 110, 32] q0))) 407 ((4 * (zM0 398 18)) + 1) (if 0 ≤ zst T n 35 (zfw T n [108, 105, 115, 116, 101, 110, 32] q0) then znv T n 35 (zfw T n [108, 105, 115, 116, 101, 110, 32] q0) else 0)) := zPS_zu hPs80 (by decide) (by omega)
                refine z_goto C0 (tgt := 360) dX12_readCommand_298 (by decide) ?_
                have hkn : zkn T n q0 = 4 := by unfold zkn; rw [if_neg (by omega), if_neg (by omega), if_neg (by omega), if_pos (by omega)]
                have hQ : zEn T n q0 = (zst T n 35 (zfw T n [108, 105, 115, 116, 101, 110, 32] q0)) := by unfold zEn; rw [hkn]; rfl
                have hRC : zRC T n q0 (zM0 398 18) zM0 (zu (zsp (zu (zu zM0 398 18 ((zM0 398 18) + 1)) 407 (4 * (zM0 398 18)) 108) (zst T n 35 (zfw T n [108, 105, 115, 116, 101, 110, 32] q0))) 407 ((4 * (zM0 398 18)) + 1) (if 0 ≤ zst T n 35 (zfw T n [108, 105, 115, 116, 101, 110, 32] q0) then znv T n 35 (zfw T n [108, 105, 115, 116, 101, 110, 32] q0) else 0)) := by
                  refine ⟨by rw [hQ]; exact hPs81, ((zu_ne (by omega)).trans ((zsp_398 (by omega) (by omega)).trans ((zu_ne (by omega)).trans (zu_same _ _ _ _)))), by rw [hkn]; exact ((zu_ne (by omega)).trans ((zsp_row (by omega) _).trans (zu_same _ _ _ _))), fun hq j j0 j1 => ?_, fun i h1 h2 => ?_, fun j h1 h2 h3 => ?_, fun j h => ?_⟩
                  · rw [hQ] at hq; rw [hkn] at j1; unfold zka; rw [hkn]
                    have j1 : j < 1 := j1
                    have hj : j = 0 := by omega
                    rcases hj with rfl
                    · exact ((zu_at (by omega) (by omega))).trans (if_pos hq)
                  · rw [zu_row (by omega), zsp_rw (by omega), zu_row (by omega), zu_row (by omega)]
                  · rw [zu_ne (by omega), zsp_398 (by omega) (by omega), zu_ne (by omega), zu_ne (by omega)]
                  · rw [zu_ne (by omega), zsp_row (by omega) _, zu_ne (by omega), zu_ne (by omega)]
                exact z_vret C0 Wd hret hlk ⟨hRC, rfl⟩ dX12_readCommand_360
            · skip
              refine z_aload_n C0 hl 3 rfl dX12_readCommand_245 ?_
              refine zg_9_17 C0 Wd zN398 zK398 zk_1629 dX12_readCommand_246 ?_
              refine z_iload_n C0 hl 0 rfl dX12_readCommand_249 ?_
              refine z_bipush C0 dX12_readCommand_250 (by decide) ?_
              refine z_iast C0 Wd zN407 zK407 zL407 (by omega) (by omega) (by decide) (zR_mk (by decide) (by decide)) dX12_readCommand_252 (fun H locs Wd => ?_)
              have hPs82 : zPS T n q0 (zu (zu zM0 398 18 ((zM0 398 18) + 1)) 407 (4 * (zM0 398 18)) 104) := zPS_zu hPs12 (by decide) (by omega)
              refine z_aload_n C0 hl 3 rfl dX12_readCommand_253 ?_
              refine zg_9_17 C0 Wd zN398 zK398 zk_1629 dX12_readCommand_254 ?_
              refine z_iload_n C0 hl 0 rfl dX12_readCommand_257 ?_
              refine z_iconst C0 dX12_readCommand_258 ?_
              refine z_iadd C0 dX12_readCommand_259 ?_
              refine z_aload_n C0 hl 3 rfl dX12_readCommand_260 ?_
              refine z_ldcr C0 (zc_r C0 (q := ("DrumWarrenModel", 246, "hare ", 48)) (List.mem_of_getElem? (i := 8) rfl)) dX12_readCommand_261 ?_
              refine z_invVi (As := [.ref (g.2.2.2 48)]) (rest := [.int (zI ((4 * (zM0 398 18)) + 1)), .ref (ad 407)]) C0 Wd (ct_X12_readDigit l g ad (zu (zu zM0 398 18 ((zM0 398 18) + 1)) 407 (4 * (zM0 398 18)) 104) zF0 T n q0 (48, 88, [104, 97, 114, 101, 32]) (List.mem_of_getElem? (i := 16) rfl) ([104, 97, 114, 101, 32]) ztl_48 hPs82 hT (by decide +kernel)) kv_X12_readDigit zN398 (zE_9 zK398) rfl zk_2021 rfl hl.1 rfl (Nat.le_of_ble_eq_true rfl) (by decide) (by decide) dX12_readCommand_263 (fun r83 zMr83 zFr83 H locs hrr83 hp Wd => ?_)
              obtain ⟨rfl, rfl, rfl⟩ := hp
              have hPs85 : zPS T n (zst T n 35 (zfw T n [104, 97, 114, 101, 32] q0)) (zsp (zu (zu zM0 398 18 ((zM0 398 18) + 1)) 407 (4 * (zM0 398 18)) 104) (zst T n 35 (zfw T n [104, 97, 114, 101, 32] q0))) := zPS_sp hPs82 (zst_in (zfw_in [104, 97, 114, 101, 32] hPs82.2.2.2.2.2))
              refine z_iast C0 Wd zN407 zK407 zL407 (by omega) (by omega) (by decide) hrr83 dX12_readCommand_266 (fun H locs Wd => ?_)
              have hPs86 : zPS T n (zst T n 35 (zfw T n [104, 97, 114, 101, 32] q0)) (zu (zsp (zu (zu zM0 398 18 ((zM0 398 18) + 1)) 407 (4 * (zM0 398 18)) 104) (zst T n 35 (zfw T n [104, 97, 114, 101, 32] q0))) 407 ((4 * (zM0 398 18)) + 1) (if 0 ≤ zst T n 35 (zfw T n [104, 97, 114, 101, 32] q0) then znv T n 35 (zfw T n [104, 97, 114, 101, 32] q0) else 0)) := zPS_zu hPs85 (by decide) (by omega)
              refine z_goto C0 (tgt := 360) dX12_readCommand_267 (by decide) ?_
              have hkn : zkn T n q0 = 2 := by unfold zkn; rw [if_neg (by omega), if_neg (by omega), if_pos (by omega)]
              have hQ : zEn T n q0 = (zst T n 35 (zfw T n [104, 97, 114, 101, 32] q0)) := by unfold zEn; rw [hkn]; rfl
              have hRC : zRC T n q0 (zM0 398 18) zM0 (zu (zsp (zu (zu zM0 398 18 ((zM0 398 18) + 1)) 407 (4 * (zM0 398 18)) 104) (zst T n 35 (zfw T n [104, 97, 114, 101, 32] q0))) 407 ((4 * (zM0 398 18)) + 1) (if 0 ≤ zst T n 35 (zfw T n [104, 97, 114, 101, 32] q0) then znv T n 35 (zfw T n [104, 97, 114, 101, 32] q0) else 0)) := by
                refine ⟨by rw [hQ]; exact hPs86, ((zu_ne (by omega)).trans ((zsp_398 (by omega) (by omega)).trans ((zu_ne (by omega)).trans (zu_same _ _ _ _)))), by rw [hkn]; exact ((zu_ne (by omega)).trans ((zsp_row (by omega) _).trans (zu_same _ _ _ _))), fun hq j j0 j1 => ?_, fun i h1 h2 => ?_, fun j h1 h2 h3 => ?_, fun j h => ?_⟩
                · rw [hQ] at hq; rw [hkn] at j1; unfold zka; rw [hkn]
                  have j1 : j < 1 := j1
                  have hj : j = 0 := by omega
                  rcases hj with rfl
                  · exact ((zu_at (by omega) (by omega))).trans (if_pos hq)
                · rw [zu_row (by omega), zsp_rw (by omega), zu_row (by omega), zu_row (by omega)]
                · rw [zu_ne (by omega), zsp_398 (by omega) (by omega), zu_ne (by omega), zu_ne (by omega)]
                · rw [zu_ne (by omega), zsp_row (by omega) _, zu_ne (by omega), zu_ne (by omega)]
              exact z_vret C0 Wd hret hlk ⟨hRC, rfl⟩ dX12_readCommand_360
          · skip
            refine z_aload_n C0 hl 3 rfl dX12_readCommand_181 ?_
            refine zg_9_17 C0 Wd zN398 zK398 zk_1629 dX12_readCommand_182 ?_
            refine z_iload_n C0 hl 0 rfl dX12_readCommand_185 ?_
            refine z_bipush C0 dX12_readCommand_186 (by decide) ?_
            refine z_iast C0 Wd zN407 zK407 zL407 (by omega) (by omega) (by decide) (zR_mk (by decide) (by decide)) dX12_readCommand_188 (fun H locs Wd => ?_)
            have hPs87 : zPS T n q0 (zu (zu zM0 398 18 ((zM0 398 18) + 1)) 407 (4 * (zM0 398 18)) 115) := zPS_zu hPs12 (by decide) (by omega)
            refine z_aload_n C0 hl 3 rfl dX12_readCommand_189 ?_
            refine zg_9_17 C0 Wd zN398 zK398 zk_1629 dX12_readCommand_190 ?_
            refine z_iload_n C0 hl 0 rfl dX12_readCommand_193 ?_
            refine z_iconst C0 dX12_readCommand_194 ?_
            refine z_iadd C0 dX12_readCommand_195 ?_
            refine z_aload_n C0 hl 3 rfl dX12_readCommand_196 ?_
            refine z_ldcr C0 (zc_r C0 (q := ("DrumWarrenModel", 240, "say ", 45)) (List.mem_of_getElem? (i := 5) rfl)) dX12_readCommand_197 ?_
            refine z_invVi (As := [.ref (g.2.2.2 45)]) (rest := [.int (zI ((4 * (zM0 398 18)) + 1)), .ref (ad 407)]) C0 Wd (ct_X12_readDigit l g ad (zu (zu zM0 398 18 ((zM0 398 18) + 1)) 407 (4 * (zM0 398 18)) 115) zF0 T n q0 (45, 85, [115, 97, 121, 32]) (List.mem_of_getElem? (i := 13) rfl) ([115, 97, 121, 32]) ztl_45 hPs87 hT (by decide +kernel)) kv_X12_readDigit zN398 (zE_9 zK398) rfl zk_2021 rfl hl.1 rfl (Nat.le_of_ble_eq_true rfl) (by decide) (by decide) dX12_readCommand_199 (fun r88 zMr88 zFr88 H locs hrr88 hp Wd => ?_)
            obtain ⟨rfl, rfl, rfl⟩ := hp
            have hPs90 : zPS T n (zst T n 35 (zfw T n [115, 97, 121, 32] q0)) (zsp (zu (zu zM0 398 18 ((zM0 398 18) + 1)) 407 (4 * (zM0 398 18)) 115) (zst T n 35 (zfw T n [115, 97, 121, 32] q0))) := zPS_sp hPs87 (zst_in (zfw_in [115, 97, 121, 32] hPs87.2.2.2.2.2))
            refine z_iast C0 Wd zN407 zK407 zL407 (by omega) (by omega) (by decide) hrr88 dX12_readCommand_202 (fun H locs Wd => ?_)
            have hPs91 : zPS T n (zst T n 35 (zfw T n [115, 97, 121, 32] q0)) (zu (zsp (zu (zu zM0 398 18 ((zM0 398 18) + 1)) 407 (4 * (zM0 398 18)) 115) (zst T n 35 (zfw T n [115, 97, 121, 32] q0))) 407 ((4 * (zM0 398 18)) + 1) (if 0 ≤ zst T n 35 (zfw T n [115, 97, 121, 32] q0) then znv T n 35 (zfw T n [115, 97, 121, 32] q0) else 0)) := zPS_zu hPs90 (by decide) (by omega)
            refine z_aload_n C0 hl 3 rfl dX12_readCommand_203 ?_
            refine zg_9_17 C0 Wd zN398 zK398 zk_1629 dX12_readCommand_204 ?_
            refine z_iload_n C0 hl 0 rfl dX12_readCommand_207 ?_
            refine z_iconst C0 dX12_readCommand_208 ?_
            refine z_iadd C0 dX12_readCommand_209 ?_
            refine z_aload_n C0 hl 3 rfl dX12_readCommand_210 ?_
            refine z_ldcr C0 (zc_r C0 (q := ("DrumWarrenModel", 242, ">", 46)) (List.mem_of_getElem? (i := 6) rfl)) dX12_readCommand_211 ?_
            refine z_invVi (As := [.ref (g.2.2.2 46)]) (rest := [.int (zI ((4 * (zM0 398 18)) + 2)), .ref (ad 407)]) C0 Wd (ct_X12_readDigit l g ad (zu (zsp (zu (zu zM0 398 18 ((zM0 398 18) + 1)) 407 (4 * (zM0 398 18)) 115) (zst T n 35 (zfw T n [115, 97, 121, 32] q0))) 407 ((4 * (zM0 398 18)) + 1) (if 0 ≤ zst T n 35 (zfw T n [115, 97, 121, 32] q0) then znv T n 35 (zfw T n [115, 97, 121, 32] q0) else 0)) zF0 T n (zst T n 35 (zfw T n [115, 97, 121, 32] q0)) (46, 86, [62]) (List.mem_of_getElem? (i := 14) rfl) ([62]) ztl_46 hPs91 hT (by decide +kernel)) kv_X12_readDigit zN398 (zE_9 zK398) rfl zk_2021 rfl hl.1 rfl (Nat.le_of_ble_eq_true rfl) (by decide) (by decide) dX12_readCommand_213 (fun r92 zMr92 zFr92 H locs hrr92 hp Wd => ?_)
            obtain ⟨rfl, rfl, rfl⟩ := hp
            have hPs94 : zPS T n (zst T n 35 (zfw T n [62] (zst T n 35 (zfw T n [115, 97, 121, 32] q0)))) (zsp (zu (zsp (zu (zu zM0 398 18 ((zM0 398 18) + 1)) 407 (4 * (zM0 398 18)) 115) (zst T n 35 (zfw T n [115, 97, 121, 32] q0))) 407 ((4 * (zM0 398 18)) + 1) (if 0 ≤ zst T n 35 (zfw T n [115, 97, 121, 32] q0) then znv T n 35 (zfw T n [115, 97, 121, 32] q0) else 0)) (zst T n 35 (zfw T n [62] (zst T n 35 (zfw T n [115, 97, 121, 32] q0))))) := zPS_sp hPs91 (zst_in (zfw_in [62] hPs91.2.2.2.2.2))
            refine z_iast C0 Wd zN407 zK407 zL407 (by omega) (by omega) (by decide) hrr92 dX12_readCommand_216 (fun H locs Wd => ?_)
            have hPs95 : zPS T n (zst T n 35 (zfw T n [62] (zst T n 35 (zfw T n [115, 97, 121, 32] q0)))) (zu (zsp (zu (zsp (zu (zu zM0 398 18 ((zM0 398 18) + 1)) 407 (4 * (zM0 398 18)) 115) (zst T n 35 (zfw T n [115, 97, 121, 32] q0))) 407 ((4 * (zM0 398 18)) + 1) (if 0 ≤ zst T n 35 (zfw T n [115, 97, 121, 32] q0) then znv T n 35 (zfw T n [115, 97, 121, 32] q0) else 0)) (zst T n 35 (zfw T n [62] (zst T n 35 (zfw T n [115, 97, 121, 32] q0))))) 407 ((4 * (zM0 398 18)) + 2) (if 0 ≤ zst T n 35 (zfw T n [62] (zst T n 35 (zfw T n [115, 97, 121, 32] q0))) then znv T n 35 (zfw T n [62] (zst T n 35 (zfw T n [115, 97, 121, 32] q0))) else 0)) := zPS_zu hPs94 (by decide) (by omega)
            refine z_aload_n C0 hl 3 rfl dX12_readCommand_217 ?_
            refine z_ldcr C0 (zc_r C0 (q := ("DrumWarrenModel", 244, "=", 47)) (List.mem_of_getElem? (i := 7) rfl)) dX12_readCommand_218 ?_
            refine z_invVv (As := [.ref (g.2.2.2 47)]) (rest := []) C0 Wd (ct_X12_skip l g ad (zu (zsp (zu (zsp (zu (zu zM0 398 18 ((zM0 398 18) + 1)) 407 (4 * (zM0 398 18)) 115) (zst T n 35 (zfw T n [115, 97, 121, 32] q0))) 407 ((4 * (zM0 398 18)) + 1) (if 0 ≤ zst T n 35 (zfw T n [115, 97, 121, 32] q0) then znv T n 35 (zfw T n [115, 97, 121, 32] q0) else 0)) (zst T n 35 (zfw T n [62] (zst T n 35 (zfw T n [115, 97, 121, 32] q0))))) 407 ((4 * (zM0 398 18)) + 2) (if 0 ≤ zst T n 35 (zfw T n [62] (zst T n 35 (zfw T n [115, 97, 121, 32] q0))) then znv T n 35 (zfw T n [62] (zst T n 35 (zfw T n [115, 97, 121, 32] q0))) else 0)) zF0 T n (zst T n 35 (zfw T n [62] (zst T n 35 (zfw T n [115, 97, 121, 32] q0)))) (47, 87, [61]) (List.mem_of_getElem? (i := 15) rfl) ([61]) ztl_47 hPs95 hT (by decide +kernel)) kv_X12_skip zN398 (zE_9 zK398) rfl zk_2025 rfl hl.1 rfl (Nat.le_of_ble_eq_true rfl) (by decide) (by decide) dX12_readCommand_220 (fun zMr96 zFr96 H locs hp Wd => ?_)
            obtain ⟨rfl, rfl⟩ := hp
            have hPs98 : zPS T n (zfw T n [61] (zst T n 35 (zfw T n [62] (zst T n 35 (zfw T n [115, 97, 121, 32] q0))))) (zsp (zu (zsp (zu (zsp (zu (zu zM0 398 18 ((zM0 398 18) + 1)) 407 (4 * (zM0 398 18)) 115) (zst T n 35 (zfw T n [115, 97, 121, 32] q0))) 407 ((4 * (zM0 398 18)) + 1) (if 0 ≤ zst T n 35 (zfw T n [115, 97, 121, 32] q0) then znv T n 35 (zfw T n [115, 97, 121, 32] q0) else 0)) (zst T n 35 (zfw T n [62] (zst T n 35 (zfw T n [115, 97, 121, 32] q0))))) 407 ((4 * (zM0 398 18)) + 2) (if 0 ≤ zst T n 35 (zfw T n [62] (zst T n 35 (zfw T n [115, 97, 121, 32] q0))) then znv T n 35 (zfw T n [62] (zst T n 35 (zfw T n [115, 97, 121, 32] q0))) else 0)) (zfw T n [61] (zst T n 35 (zfw T n [62] (zst T n 35 (zfw T n [115, 97, 121, 32] q0)))))) := zPS_sp hPs95 (zfw_in [61] hPs95.2.2.2.2.2)
            refine z_aload_n C0 hl 3 rfl dX12_readCommand_223 ?_
            refine zg_9_17 C0 Wd zN398 zK398 zk_1629 dX12_readCommand_224 ?_
            refine z_iload_n C0 hl 0 rfl dX12_readCommand_227 ?_
            refine z_iconst C0 dX12_readCommand_228 ?_
            refine z_iadd C0 dX12_readCommand_229 ?_
            refine z_aload_n C0 hl 3 rfl dX12_readCommand_230 ?_
            refine z_iconst C0 dX12_readCommand_231 ?_
            refine z_invVi (As := [.int (zI 2)]) (rest := [.int (zI ((4 * (zM0 398 18)) + 3)), .ref (ad 407)]) C0 Wd (ct_X12_readNumber_2 l g ad (zsp (zu (zsp (zu (zsp (zu (zu zM0 398 18 ((zM0 398 18) + 1)) 407 (4 * (zM0 398 18)) 115) (zst T n 35 (zfw T n [115, 97, 121, 32] q0))) 407 ((4 * (zM0 398 18)) + 1) (if 0 ≤ zst T n 35 (zfw T n [115, 97, 121, 32] q0) then znv T n 35 (zfw T n [115, 97, 121, 32] q0) else 0)) (zst T n 35 (zfw T n [62] (zst T n 35 (zfw T n [115, 97, 121, 32] q0))))) 407 ((4 * (zM0 398 18)) + 2) (if 0 ≤ zst T n 35 (zfw T n [62] (zst T n 35 (zfw T n [115, 97, 121, 32] q0))) then znv T n 35 (zfw T n [62] (zst T n 35 (zfw T n [115, 97, 121, 32] q0))) else 0)) (zfw T n [61] (zst T n 35 (zfw T n [62] (zst T n 35 (zfw T n [115, 97, 121, 32] q0)))))) zF0 T n (zfw T n [61] (zst T n 35 (zfw T n [62] (zst T n 35 (zfw T n [115, 97, 121, 32] q0))))) 2 (zR_mk (by decide) (by decide)) hPs98 hT (by omega)) kv_X12_readNumber zN398 (zE_9 zK398) rfl zk_2031 rfl hl.1 rfl (Nat.le_of_ble_eq_true rfl) (by decide) (by decide) dX12_readCommand_232 (fun r99 zMr99 zFr99 H locs hrr99 hp Wd => ?_)
            obtain ⟨rfl, rfl, rfl⟩ := hp
            have hPs101 : zPS T n (zst T n 37 (zfw T n [61] (zst T n 35 (zfw T n [62] (zst T n 35 (zfw T n [115, 97, 121, 32] q0)))))) (zsp (zsp (zu (zsp (zu (zsp (zu (zu zM0 398 18 ((zM0 398 18) + 1)) 407 (4 * (zM0 398 18)) 115) (zst T n 35 (zfw T n [115, 97, 121, 32] q0))) 407 ((4 * (zM0 398 18)) + 1) (if 0 ≤ zst T n 35 (zfw T n [115, 97, 121, 32] q0) then znv T n 35 (zfw T n [115, 97, 121, 32] q0) else 0)) (zst T n 35 (zfw T n [62] (zst T n 35 (zfw T n [115, 97, 121, 32] q0))))) 407 ((4 * (zM0 398 18)) + 2) (if 0 ≤ zst T n 35 (zfw T n [62] (zst T n 35 (zfw T n [115, 97, 121, 32] q0))) then znv T n 35 (zfw T n [62] (zst T n 35 (zfw T n [115, 97, 121, 32] q0))) else 0)) (zfw T n [61] (zst T n 35 (zfw T n [62] (zst T n 35 (zfw T n [115, 97, 121, 32] q0)))))) (zst T n 37 (zfw T n [61] (zst T n 35 (zfw T n [62] (zst T n 35 (zfw T n [115, 97, 121, 32] q0))))))) := zPS_sp hPs98 (zst_in hPs98.2.2.2.2.2)
            refine z_iast C0 Wd zN407 zK407 zL407 (by omega) (by omega) (by decide) hrr99 dX12_readCommand_235 (fun H locs Wd => ?_)
            have hPs102 : zPS T n (zst T n 37 (zfw T n [61] (zst T n 35 (zfw T n [62] (zst T n 35 (zfw T n [115, 97, 121, 32] q0)))))) (zu (zsp (zsp (zu (zsp (zu (zsp (zu (zu zM0 398 18 ((zM0 398 18) + 1)) 407 (4 * (zM0 398 18)) 115) (zst T n 35 (zfw T n [115, 97, 121, 32] q0))) 407 ((4 * (zM0 398 18)) + 1) (if 0 ≤ zst T n 35 (zfw T n [115, 97, 121, 32] q0) then znv T n 35 (zfw T n [115, 97, 121, 32] q0) else 0)) (zst T n 35 (zfw T n [62] (zst T n 35 (zfw T n [115, 97, 121, 32] q0))))) 407 ((4 * (zM0 398 18)) + 2) (if 0 ≤ zst T n 35 (zfw T n [62] (zst T n 35 (zfw T n [115, 97, 121, 32] q0))) then znv T n 35 (zfw T n [62] (zst T n 35 (zfw T n [115, 97, 121, 32] q0))) else 0)) (zfw T n [61] (zst T n 35 (zfw T n [62] (zst T n 35 (zfw T n [115, 97, 121, 32] q0)))))) (zst T n 37 (zfw T n [61] (zst T n 35 (zfw T n [62] (zst T n 35 (zfw T n [115, 97, 121, 32] q0))))))) 407 ((4 * (zM0 398 18)) + 3) (if 0 ≤ zst T n 37 (zfw T n [61] (zst T n 35 (zfw T n [62] (zst T n 35 (zfw T n [115, 97, 121, 32] q0))))) then znv T n 37 (zfw T n [61] (zst T n 35 (zfw T n [62] (zst T n 35 (zfw T n [115, 97, 121, 32] q0))))) else 0)) := zPS_zu hPs101 (by decide) (by omega)
            refine z_goto C0 (tgt := 360) dX12_readCommand_236 (by decide) ?_
            have hkn : zkn T n q0 = 3 := by unfold zkn; rw [if_neg (by omega), if_pos (by omega), if_neg (by omega)]
            have hQ : zEn T n q0 = (zst T n 37 (zfw T n [61] (zst T n 35 (zfw T n [62] (zst T n 35 (zfw T n [115, 97, 121, 32] q0)))))) := by unfold zEn; rw [hkn]; rfl
            have hRC : zRC T n q0 (zM0 398 18) zM0 (zu (zsp (zsp (zu (zsp (zu (zsp (zu (zu zM0 398 18 ((zM0 398 18) + 1)) 407 (4 * (zM0 398 18)) 115) (zst T n 35 (zfw T n [115, 97, 121, 32] q0))) 407 ((4 * (zM0 398 18)) + 1) (if 0 ≤ zst T n 35 (zfw T n [115, 97, 121, 32] q0) then znv T n 35 (zfw T n [115, 97, 121, 32] q0) else 0)) (zst T n 35 (zfw T n [62] (zst T n 35 (zfw T n [115, 97, 121, 32] q0))))) 407 ((4 * (zM0 398 18)) + 2) (if 0 ≤ zst T n 35 (zfw T n [62] (zst T n 35 (zfw T n [115, 97, 121, 32] q0))) then znv T n 35 (zfw T n [62] (zst T n 35 (zfw T n [115, 97, 121, 32] q0))) else 0)) (zfw T n [61] (zst T n 35 (zfw T n [62] (zst T n 35 (zfw T n [115, 97, 121, 32] q0)))))) (zst T n 37 (zfw T n [61] (zst T n 35 (zfw T n [62] (zst T n 35 (zfw T n [115, 97, 121, 32] q0))))))) 407 ((4 * (zM0 398 18)) + 3) (if 0 ≤ zst T n 37 (zfw T n [61] (zst T n 35 (zfw T n [62] (zst T n 35 (zfw T n [115, 97, 121, 32] q0))))) then znv T n 37 (zfw T n [61] (zst T n 35 (zfw T n [62] (zst T n 35 (zfw T n [115, 97, 121, 32] q0))))) else 0)) := by
              refine ⟨by rw [hQ]; exact hPs102, ((zu_ne (by omega)).trans ((zsp_398 (by omega) (by omega)).trans ((zsp_398 (by omega) (by omega)).trans ((zu_ne (by omega)).trans ((zsp_398 (by omega) (by omega)).trans ((zu_ne (by omega)).trans ((zsp_398 (by omega) (by omega)).trans ((zu_ne (by omega)).trans (zu_same _ _ _ _))))))))), by rw [hkn]; exact ((zu_ne (by omega)).trans ((zsp_row (by omega) _).trans ((zsp_row (by omega) _).trans ((zu_ne (by omega)).trans ((zsp_row (by omega) _).trans ((zu_ne (by omega)).trans ((zsp_row (by omega) _).trans (zu_same _ _ _ _)))))))), fun hq j j0 j1 => ?_, fun i h1 h2 => ?_, fun j h1 h2 h3 => ?_, fun j h => ?_⟩
              · rw [hQ] at hq; rw [hkn] at j1; unfold zka; rw [hkn]
                have j1 : j < 3 := j1
                have hj : j = 0 ∨ j = 1 ∨ j = 2 := by omega
                rcases hj with rfl | rfl | rfl
                · exact (((zu_ne (by omega)).trans ((zsp_row (by omega) _).trans ((zsp_row (by omega) _).trans ((zu_ne (by omega)).trans ((zsp_row (by omega) _).trans (zu_at (by omega) (by omega)))))))).trans (if_pos (zfw_ge (zst_ge (zfw_ge (zst_ge hq)))))
                · exact (((zu_ne (by omega)).trans ((zsp_row (by omega) _).trans ((zsp_row (by omega) _).trans (zu_at (by omega) (by omega)))))).trans (if_pos (zfw_ge (zst_ge hq)))
                · exact ((zu_at (by omega) (by omega))).trans (if_pos hq)
              · rw [zu_row (by omega), zsp_rw (by omega), zsp_rw (by omega), zu_row (by omega), zsp_rw (by omega), zu_row (by omega), zsp_rw (by omega), zu_row (by omega), zu_row (by omega)]
              · rw [zu_ne (by omega), zsp_398 (by omega) (by omega), zsp_398 (by omega) (by omega), zu_ne (by omega), zsp_398 (by omega) (by omega), zu_ne (by omega), zsp_398 (by omega) (by omega), zu_ne (by omega), zu_ne (by omega)]
              · rw [zu_ne (by omega), zsp_row (by omega) _, zsp_row (by omega) _, zu_ne (by omega), zsp_row (by omega) _, zu_ne (by omega), zsp_row (by omega) _, zu_ne (by omega), zu_ne (by omega)]
            exact z_vret C0 Wd hret hlk ⟨hRC, rfl⟩ dX12_readCommand_360
        · skip
          refine z_aload_n C0 hl 3 rfl dX12_readCommand_150 ?_
          refine zg_9_17 C0 Wd zN398 zK398 zk_1629 dX12_readCommand_151 ?_
          refine z_iload_n C0 hl 0 rfl dX12_readCommand_154 ?_
          refine z_bipush C0 dX12_readCommand_155 (by decide) ?_
          refine z_iast C0 Wd zN407 zK407 zL407 (by omega) (by omega) (by decide) (zR_mk (by decide) (by decide)) dX12_readCommand_157 (fun H locs Wd => ?_)
          have hPs103 : zPS T n q0 (zu (zu zM0 398 18 ((zM0 398 18) + 1)) 407 (4 * (zM0 398 18)) 122) := zPS_zu hPs12 (by decide) (by omega)
          refine z_aload_n C0 hl 3 rfl dX12_readCommand_158 ?_
          refine zg_9_17 C0 Wd zN398 zK398 zk_1629 dX12_readCommand_159 ?_
          refine z_iload_n C0 hl 0 rfl dX12_readCommand_162 ?_
          refine z_iconst C0 dX12_readCommand_163 ?_
          refine z_iadd C0 dX12_readCommand_164 ?_
          refine z_aload_n C0 hl 3 rfl dX12_readCommand_165 ?_
          refine z_ldcr C0 (zc_r C0 (q := ("DrumWarrenModel", 238, "sleep ", 44)) (List.mem_of_getElem? (i := 4) rfl)) dX12_readCommand_166 ?_
          refine z_invVi (As := [.ref (g.2.2.2 44)]) (rest := [.int (zI ((4 * (zM0 398 18)) + 1)), .ref (ad 407)]) C0 Wd (ct_X12_readDigit l g ad (zu (zu zM0 398 18 ((zM0 398 18) + 1)) 407 (4 * (zM0 398 18)) 122) zF0 T n q0 (44, 84, [115, 108, 101, 101, 112, 32]) (List.mem_of_getElem? (i := 12) rfl) ([115, 108, 101, 101, 112, 32]) ztl_44 hPs103 hT (by decide +kernel)) kv_X12_readDigit zN398 (zE_9 zK398) rfl zk_2021 rfl hl.1 rfl (Nat.le_of_ble_eq_true rfl) (by decide) (by decide) dX12_readCommand_168 (fun r104 zMr104 zFr104 H locs hrr104 hp Wd => ?_)
          obtain ⟨rfl, rfl, rfl⟩ := hp
          have hPs106 : zPS T n (zst T n 35 (zfw T n [115, 108, 101, 101, 112, 32] q0)) (zsp (zu (zu zM0 398 18 ((zM0 398 18) + 1)) 407 (4 * (zM0 398 18)) 122) (zst T n 35 (zfw T n [115, 108, 101, 101, 112, 32] q0))) := zPS_sp hPs103 (zst_in (zfw_in [115, 108, 101, 101, 112, 32] hPs103.2.2.2.2.2))
          refine z_iast C0 Wd zN407 zK407 zL407 (by omega) (by omega) (by decide) hrr104 dX12_readCommand_171 (fun H locs Wd => ?_)
          have hPs107 : zPS T n (zst T n 35 (zfw T n [115, 108, 101, 101, 112, 32] q0)) (zu (zsp (zu (zu zM0 398 18 ((zM0 398 18) + 1)) 407 (4 * (zM0 398 18)) 122) (zst T n 35 (zfw T n [115, 108, 101, 101, 112, 32] q0))) 407 ((4 * (zM0 398 18)) + 1) (if 0 ≤ zst T n 35 (zfw T n [115, 108, 101, 101, 112, 32] q0) then znv T n 35 (zfw T n [115, 108, 101, 101, 112, 32] q0) else 0)) := zPS_zu hPs106 (by decide) (by omega)
          refine z_goto C0 (tgt := 360) dX12_readCommand_172 (by decide) ?_
          have hkn : zkn T n q0 = 5 := by unfold zkn; rw [if_neg (by omega), if_pos (by omega), if_pos (by omega)]
          have hQ : zEn T n q0 = (zst T n 35 (zfw T n [115, 108, 101, 101, 112, 32] q0)) := by unfold zEn; rw [hkn]; rfl
          have hRC : zRC T n q0 (zM0 398 18) zM0 (zu (zsp (zu (zu zM0 398 18 ((zM0 398 18) + 1)) 407 (4 * (zM0 398 18)) 122) (zst T n 35 (zfw T n [115, 108, 101, 101, 112, 32] q0))) 407 ((4 * (zM0 398 18)) + 1) (if 0 ≤ zst T n 35 (zfw T n [115, 108, 101, 101, 112, 32] q0) then znv T n 35 (zfw T n [115, 108, 101, 101, 112, 32] q0) else 0)) := by
            refine ⟨by rw [hQ]; exact hPs107, ((zu_ne (by omega)).trans ((zsp_398 (by omega) (by omega)).trans ((zu_ne (by omega)).trans (zu_same _ _ _ _)))), by rw [hkn]; exact ((zu_ne (by omega)).trans ((zsp_row (by omega) _).trans (zu_same _ _ _ _))), fun hq j j0 j1 => ?_, fun i h1 h2 => ?_, fun j h1 h2 h3 => ?_, fun j h => ?_⟩
            · rw [hQ] at hq; rw [hkn] at j1; unfold zka; rw [hkn]
              have j1 : j < 1 := j1
              have hj : j = 0 := by omega
              rcases hj with rfl
              · exact ((zu_at (by omega) (by omega))).trans (if_pos hq)
            · rw [zu_row (by omega), zsp_rw (by omega), zu_row (by omega), zu_row (by omega)]
            · rw [zu_ne (by omega), zsp_398 (by omega) (by omega), zu_ne (by omega), zu_ne (by omega)]
            · rw [zu_ne (by omega), zsp_row (by omega) _, zu_ne (by omega), zu_ne (by omega)]
          exact z_vret C0 Wd hret hlk ⟨hRC, rfl⟩ dX12_readCommand_360
    · skip
      refine z_aload_n C0 hl 3 rfl dX12_readCommand_108 ?_
      refine zg_9_17 C0 Wd zN398 zK398 zk_1629 dX12_readCommand_109 ?_
      refine z_iload_n C0 hl 0 rfl dX12_readCommand_112 ?_
      refine z_bipush C0 dX12_readCommand_113 (by decide) ?_
      refine z_iast C0 Wd zN407 zK407 zL407 (by omega) (by omega) (by decide) (zR_mk (by decide) (by decide)) dX12_readCommand_115 (fun H locs Wd => ?_)
      have hPs108 : zPS T n q0 (zu (zu zM0 398 18 ((zM0 398 18) + 1)) 407 (4 * (zM0 398 18)) 116) := zPS_zu hPs12 (by decide) (by omega)
      refine z_aload_n C0 hl 3 rfl dX12_readCommand_116 ?_
      refine z_ldcr C0 (zc_r C0 (q := ("DrumWarrenModel", 236, "tick ", 43)) (List.mem_of_getElem? (i := 3) rfl)) dX12_readCommand_117 ?_
      refine z_invVv (As := [.ref (g.2.2.2 43)]) (rest := []) C0 Wd (ct_X12_skip l g ad (zu (zu zM0 398 18 ((zM0 398 18) + 1)) 407 (4 * (zM0 398 18)) 116) zF0 T n q0 (43, 83, [116, 105, 99, 107, 32]) (List.mem_of_getElem? (i := 11) rfl) ([116, 105, 99, 107, 32]) ztl_43 hPs108 hT (by decide +kernel)) kv_X12_skip zN398 (zE_9 zK398) rfl zk_2025 rfl hl.1 rfl (Nat.le_of_ble_eq_true rfl) (by decide) (by decide) dX12_readCommand_119 (fun zMr109 zFr109 H locs hp Wd => ?_)
      obtain ⟨rfl, rfl⟩ := hp
      have hPs111 : zPS T n (zfw T n [116, 105, 99, 107, 32] q0) (zsp (zu (zu zM0 398 18 ((zM0 398 18) + 1)) 407 (4 * (zM0 398 18)) 116) (zfw T n [116, 105, 99, 107, 32] q0)) := zPS_sp hPs108 (zfw_in [116, 105, 99, 107, 32] hPs108.2.2.2.2.2)
      refine z_aload_n C0 hl 3 rfl dX12_readCommand_122 ?_
      refine zg_9_17 C0 Wd zN398 zK398 zk_1629 dX12_readCommand_123 ?_
      refine z_iload_n C0 hl 0 rfl dX12_readCommand_126 ?_
      refine z_iconst C0 dX12_readCommand_127 ?_
      refine z_iadd C0 dX12_readCommand_128 ?_
      refine z_aload_n C0 hl 3 rfl dX12_readCommand_129 ?_
      refine z_iconst C0 dX12_readCommand_130 ?_
      refine z_invVi (As := [.int (zI 2)]) (rest := [.int (zI ((4 * (zM0 398 18)) + 1)), .ref (ad 407)]) C0 Wd (ct_X12_readNumber_2 l g ad (zsp (zu (zu zM0 398 18 ((zM0 398 18) + 1)) 407 (4 * (zM0 398 18)) 116) (zfw T n [116, 105, 99, 107, 32] q0)) zF0 T n (zfw T n [116, 105, 99, 107, 32] q0) 2 (zR_mk (by decide) (by decide)) hPs111 hT (by omega)) kv_X12_readNumber zN398 (zE_9 zK398) rfl zk_2031 rfl hl.1 rfl (Nat.le_of_ble_eq_true rfl) (by decide) (by decide) dX12_readCommand_131 (fun r112 zMr112 zFr112 H locs hrr112 hp Wd => ?_)
      obtain ⟨rfl, rfl, rfl⟩ := hp
      have hPs114 : zPS T n (zst T n 37 (zfw T n [116, 105, 99, 107, 32] q0)) (zsp (zsp (zu (zu zM0 398 18 ((zM0 398 18) + 1)) 407 (4 * (zM0 398 18)) 116) (zfw T n [116, 105, 99, 107, 32] q0)) (zst T n 37 (zfw T n [116, 105, 99, 107, 32] q0))) := zPS_sp hPs111 (zst_in hPs111.2.2.2.2.2)
      refine z_iast C0 Wd zN407 zK407 zL407 (by omega) (by omega) (by decide) hrr112 dX12_readCommand_134 (fun H locs Wd => ?_)
      have hPs115 : zPS T n (zst T n 37 (zfw T n [116, 105, 99, 107, 32] q0)) (zu (zsp (zsp (zu (zu zM0 398 18 ((zM0 398 18) + 1)) 407 (4 * (zM0 398 18)) 116) (zfw T n [116, 105, 99, 107, 32] q0)) (zst T n 37 (zfw T n [116, 105, 99, 107, 32] q0))) 407 ((4 * (zM0 398 18)) + 1) (if 0 ≤ zst T n 37 (zfw T n [116, 105, 99, 107, 32] q0) then znv T n 37 (zfw T n [116, 105, 99, 107, 32] q0) else 0)) := zPS_zu hPs114 (by decide) (by omega)
      refine z_goto C0 (tgt := 360) dX12_readCommand_135 (by decide) ?_
      have hkn : zkn T n q0 = 7 := by unfold zkn; rw [if_pos (by omega), if_neg (by omega)]
      have hQ : zEn T n q0 = (zst T n 37 (zfw T n [116, 105, 99, 107, 32] q0)) := by unfold zEn; rw [hkn]; rfl
      have hRC : zRC T n q0 (zM0 398 18) zM0 (zu (zsp (zsp (zu (zu zM0 398 18 ((zM0 398 18) + 1)) 407 (4 * (zM0 398 18)) 116) (zfw T n [116, 105, 99, 107, 32] q0)) (zst T n 37 (zfw T n [116, 105, 99, 107, 32] q0))) 407 ((4 * (zM0 398 18)) + 1) (if 0 ≤ zst T n 37 (zfw T n [116, 105, 99, 107, 32] q0) then znv T n 37 (zfw T n [116, 105, 99, 107, 32] q0) else 0)) := by
        refine ⟨by rw [hQ]; exact hPs115, ((zu_ne (by omega)).trans ((zsp_398 (by omega) (by omega)).trans ((zsp_398 (by omega) (by omega)).trans ((zu_ne (by omega)).trans (zu_same _ _ _ _))))), by rw [hkn]; exact ((zu_ne (by omega)).trans ((zsp_row (by omega) _).trans ((zsp_row (by omega) _).trans (zu_same _ _ _ _)))), fun hq j j0 j1 => ?_, fun i h1 h2 => ?_, fun j h1 h2 h3 => ?_, fun j h => ?_⟩
        · rw [hQ] at hq; rw [hkn] at j1; unfold zka; rw [hkn]
          have j1 : j < 1 := j1
          have hj : j = 0 := by omega
          rcases hj with rfl
          · exact ((zu_at (by omega) (by omega))).trans (if_pos hq)
        · rw [zu_row (by omega), zsp_rw (by omega), zsp_rw (by omega), zu_row (by omega), zu_row (by omega)]
        · rw [zu_ne (by omega), zsp_398 (by omega) (by omega), zsp_398 (by omega) (by omega), zu_ne (by omega), zu_ne (by omega)]
        · rw [zu_ne (by omega), zsp_row (by omega) _, zsp_row (by omega) _, zu_ne (by omega), zu_ne (by omega)]
      exact z_vret C0 Wd hret hlk ⟨hRC, rfl⟩ dX12_readCommand_360
  · skip
    refine z_iload_n C0 hl 1 rfl dX12_readCommand_43 ?_
    refine z_bipush C0 dX12_readCommand_44 (by decide) ?_
    refine z_icmp_ne C0 (tgt := 102) hbqs (zR_mk (by decide) (by decide)) dX12_readCommand_46 (by decide) (fun c116 => ?_) (fun c116 => ?_)
    · skip
      refine z_iload_n C0 hl 2 rfl dX12_readCommand_102 ?_
      refine z_bipush C0 dX12_readCommand_103 (by decide) ?_
      refine z_icmp_ne C0 (tgt := 138) hbqf (zR_mk (by decide) (by decide)) dX12_readCommand_105 (by decide) (fun c117 => ?_) (fun c117 => ?_)
      · skip
        refine z_iload_n C0 hl 2 rfl dX12_readCommand_138 ?_
        refine z_bipush C0 dX12_readCommand_139 (by decide) ?_
        refine z_icmp_ne C0 (tgt := 175) hbqf (zR_mk (by decide) (by decide)) dX12_readCommand_141 (by decide) (fun c118 => ?_) (fun c118 => ?_)
        · skip
          refine z_iload_n C0 hl 2 rfl dX12_readCommand_175 ?_
          refine z_bipush C0 dX12_readCommand_176 (by decide) ?_
          refine z_icmp_ne C0 (tgt := 239) hbqf (zR_mk (by decide) (by decide)) dX12_readCommand_178 (by decide) (fun c119 => ?_) (fun c119 => ?_)
          · skip
            refine z_iload_n C0 hl 2 rfl dX12_readCommand_239 ?_
            refine z_bipush C0 dX12_readCommand_240 (by decide) ?_
            refine z_icmp_ne C0 (tgt := 270) hbqf (zR_mk (by decide) (by decide)) dX12_readCommand_242 (by decide) (fun c120 => ?_) (fun c120 => ?_)
            · skip
              refine z_iload_n C0 hl 2 rfl dX12_readCommand_270 ?_
              refine z_bipush C0 dX12_readCommand_271 (by decide) ?_
              refine z_icmp_ne C0 (tgt := 301) hbqf (zR_mk (by decide) (by decide)) dX12_readCommand_273 (by decide) (fun c121 => ?_) (fun c121 => ?_)
              · skip
                refine z_iload_n C0 hl 2 rfl dX12_readCommand_301 ?_
                refine z_bipush C0 dX12_readCommand_302 (by decide) ?_
                refine z_icmp_ne C0 (tgt := 346) hbqf (zR_mk (by decide) (by decide)) dX12_readCommand_304 (by decide) (fun c122 => ?_) (fun c122 => ?_)
                · skip
                  refine z_aload_n C0 hl 3 rfl dX12_readCommand_346 ?_
                  refine zg_9_17 C0 Wd zN398 zK398 zk_1629 dX12_readCommand_347 ?_
                  refine z_iload_n C0 hl 0 rfl dX12_readCommand_350 ?_
                  refine z_bipush C0 dX12_readCommand_351 (by decide) ?_
                  refine z_iast C0 Wd zN407 zK407 zL407 (by omega) (by omega) (by decide) (zR_mk (by decide) (by decide)) dX12_readCommand_353 (fun H locs Wd => ?_)
                  have hPs123 : zPS T n q0 (zu (zu zM0 398 18 ((zM0 398 18) + 1)) 407 (4 * (zM0 398 18)) 99) := zPS_zu hPs12 (by decide) (by omega)
                  refine z_aload_n C0 hl 3 rfl dX12_readCommand_354 ?_
                  refine z_ldcr C0 (zc_r C0 (q := ("DrumWarrenModel", 254, "chamber", 52)) (List.mem_of_getElem? (i := 12) rfl)) dX12_readCommand_355 ?_
                  refine z_invVv (As := [.ref (g.2.2.2 52)]) (rest := []) C0 Wd (ct_X12_skip l g ad (zu (zu zM0 398 18 ((zM0 398 18) + 1)) 407 (4 * (zM0 398 18)) 99) zF0 T n q0 (52, 92, [99, 104, 97, 109, 98, 101, 114]) (List.mem_of_getElem? (i := 20) rfl) ([99, 104, 97, 109, 98, 101, 114]) ztl_52 hPs123 hT (by decide +kernel)) kv_X12_skip zN398 (zE_9 zK398) rfl zk_2025 rfl hl.1 rfl (Nat.le_of_ble_eq_true rfl) (by decide) (by decide) dX12_readCommand_357 (fun zMr124 zFr124 H locs hp Wd => ?_)
                  obtain ⟨rfl, rfl⟩ := hp
                  have hPs126 : zPS T n (zfw T n [99, 104, 97, 109, 98, 101, 114] q0) (zsp (zu (zu zM0 398 18 ((zM0 398 18) + 1)) 407 (4 * (zM0 398 18)) 99) (zfw T n [99, 104, 97, 109, 98, 101, 114] q0)) := zPS_sp hPs123 (zfw_in [99, 104, 97, 109, 98, 101, 114] hPs123.2.2.2.2.2)
                  have hkn : zkn T n q0 = 0 := by unfold zkn; rw [if_neg (by omega), if_neg (by omega), if_neg (by omega), if_neg (by omega), if_neg (by omega)]
                  have hQ : zEn T n q0 = (zfw T n [99, 104, 97, 109, 98, 101, 114] q0) := by unfold zEn; rw [hkn]; rfl
                  have hRC : zRC T n q0 (zM0 398 18) zM0 (zsp (zu (zu zM0 398 18 ((zM0 398 18) + 1)) 407 (4 * (zM0 398 18)) 99) (zfw T n [99, 104, 97, 109, 98, 101, 114] q0)) := by
                    refine ⟨by rw [hQ]; exact hPs126, ((zsp_398 (by omega) (by omega)).trans ((zu_ne (by omega)).trans (zu_same _ _ _ _))), by rw [hkn]; exact ((zsp_row (by omega) _).trans (zu_same _ _ _ _)), fun hq j j0 j1 => ?_, fun i h1 h2 => ?_, fun j h1 h2 h3 => ?_, fun j h => ?_⟩
                    · rw [hQ] at hq; rw [hkn] at j1; unfold zka; rw [hkn]
                      exact absurd j1 (by show ¬ j < 0; omega)
                    · rw [zsp_rw (by omega), zu_row (by omega), zu_row (by omega)]
                    · rw [zsp_398 (by omega) (by omega), zu_ne (by omega), zu_ne (by omega)]
                    · rw [zsp_row (by omega) _, zu_ne (by omega), zu_ne (by omega)]
                  exact z_vret C0 Wd hret hlk ⟨hRC, rfl⟩ dX12_readCommand_360
                · skip
                  refine z_aload_n C0 hl 3 rfl dX12_readCommand_307 ?_
                  refine zg_9_17 C0 Wd zN398 zK398 zk_1629 dX12_readCommand_308 ?_
                  refine z_iload_n C0 hl 0 rfl dX12_readCommand_311 ?_
                  refine z_bipush C0 dX12_readCommand_312 (by decide) ?_
                  refine z_iast C0 Wd zN407 zK407 zL407 (by omega) (by omega) (by decide) (zR_mk (by decide) (by decide)) dX12_readCommand_314 (fun H locs Wd => ?_)
                  have hPs127 : zPS T n q0 (zu (zu zM0 398 18 ((zM0 398 18) + 1)) 407 (4 * (zM0 398 18)) 103) := zPS_zu hPs12 (by decide) (by omega)
                  refine z_aload_n C0 hl 3 rfl dX12_readCommand_315 ?_
                  refine zg_9_17 C0 Wd zN398 zK398 zk_1629 dX12_readCommand_316 ?_
                  refine z_iload_n C0 hl 0 rfl dX12_readCommand_319 ?_
                  refine z_iconst C0 dX12_readCommand_320 ?_
                  refine z_iadd C0 dX12_readCommand_321 ?_
                  refine z_aload_n C0 hl 3 rfl dX12_readCommand_322 ?_
                  refine z_ldcr C0 (zc_r C0 (q := ("DrumWarrenModel", 250, "go ", 50)) (List.mem_of_getElem? (i := 10) rfl)) dX12_readCommand_323 ?_
                  refine z_invVi (As := [.ref (g.2.2.2 50)]) (rest := [.int (zI ((4 * (zM0 398 18)) + 1)), .ref (ad 407)]) C0 Wd (ct_X12_readDigit l g ad (zu (zu zM0 398 18 ((zM0 398 18) + 1)) 407 (4 * (zM0 398 18)) 103) zF0 T n q0 (50, 90, [103, 111, 32]) (List.mem_of_getElem? (i := 18) rfl) ([103, 111, 32]) ztl_50 hPs127 hT (by decide +kernel)) kv_X12_readDigit zN398 (zE_9 zK398) rfl zk_2021 rfl hl.1 rfl (Nat.le_of_ble_eq_true rfl) (by decide) (by decide) dX12_readCommand_325 (fun r128 zMr128 zFr128 H locs hrr128 hp Wd => ?_)
                  obtain ⟨rfl, rfl, rfl⟩ := hp
                  have hPs130 : zPS T n (zst T n 35 (zfw T n [103, 111, 32] q0)) (zsp (zu (zu zM0 398 18 ((zM0 398 18) + 1)) 407 (4 * (zM0 398 18)) 103) (zst T n 35 (zfw T n [103, 111, 32] q0))) := zPS_sp hPs127 (zst_in (zfw_in [103, 111, 32] hPs127.2.2.2.2.2))
                  refine z_iast C0 Wd zN407 zK407 zL407 (by omega) (by omega) (by decide) hrr128 dX12_readCommand_328 (fun H locs Wd => ?_)
                  have hPs131 : zPS T n (zst T n 35 (zfw T n [103, 111, 32] q0)) (zu (zsp (zu (zu zM0 398 18 ((zM0 398 18) + 1)) 407 (4 * (zM0 398 18)) 103) (zst T n 35 (zfw T n [103, 111, 32] q0))) 407 ((4 * (zM0 398 18)) + 1) (if 0 ≤ zst T n 35 (zfw T n [103, 111, 32] q0) then znv T n 35 (zfw T n [103, 111, 32] q0) else 0)) := zPS_zu hPs130 (by decide) (by omega)
                  refine z_aload_n C0 hl 3 rfl dX12_readCommand_329 ?_
                  refine zg_9_17 C0 Wd zN398 zK398 zk_1629 dX12_readCommand_330 ?_
                  refine z_iload_n C0 hl 0 rfl dX12_readCommand_333 ?_
                  refine z_iconst C0 dX12_readCommand_334 ?_
                  refine z_iadd C0 dX12_readCommand_335 ?_
                  refine z_aload_n C0 hl 3 rfl dX12_readCommand_336 ?_
                  refine z_ldcr C0 (zc_r C0 (q := ("DrumWarrenModel", 252, "@", 51)) (List.mem_of_getElem? (i := 11) rfl)) dX12_readCommand_337 ?_
                  refine z_invVi (As := [.ref (g.2.2.2 51)]) (rest := [.int (zI ((4 * (zM0 398 18)) + 2)), .ref (ad 407)]) C0 Wd (ct_X12_readDigit l g ad (zu (zsp (zu (zu zM0 398 18 ((zM0 398 18) + 1)) 407 (4 * (zM0 398 18)) 103) (zst T n 35 (zfw T n [103, 111, 32] q0))) 407 ((4 * (zM0 398 18)) + 1) (if 0 ≤ zst T n 35 (zfw T n [103, 111, 32] q0) then znv T n 35 (zfw T n [103, 111, 32] q0) else 0)) zF0 T n (zst T n 35 (zfw T n [103, 111, 32] q0)) (51, 91, [64]) (List.mem_of_getElem? (i := 19) rfl) ([64]) ztl_51 hPs131 hT (by decide +kernel)) kv_X12_readDigit zN398 (zE_9 zK398) rfl zk_2021 rfl hl.1 rfl (Nat.le_of_ble_eq_true rfl) (by decide) (by decide) dX12_readCommand_339 (fun r132 zMr132 zFr132 H locs hrr132 hp Wd => ?_)
                  obtain ⟨rfl, rfl, rfl⟩ := hp
                  have hPs134 : zPS T n (zst T n 35 (zfw T n [64] (zst T n 35 (zfw T n [103, 111, 32] q0)))) (zsp (zu (zsp (zu (zu zM0 398 18 ((zM0 398 18) + 1)) 407 (4 * (zM0 398 18)) 103) (zst T n 35 (zfw T n [103, 111, 32] q0))) 407 ((4 * (zM0 398 18)) + 1) (if 0 ≤ zst T n 35 (zfw T n [103, 111, 32] q0) then znv T n 35 (zfw T n [103, 111, 32] q0) else 0)) (zst T n 35 (zfw T n [64] (zst T n 35 (zfw T n [103, 111, 32] q0))))) := zPS_sp hPs131 (zst_in (zfw_in [64] hPs131.2.2.2.2.2))
                  refine z_iast C0 Wd zN407 zK407 zL407 (by omega) (by omega) (by decide) hrr132 dX12_readCommand_342 (fun H locs Wd => ?_)
                  have hPs135 : zPS T n (zst T n 35 (zfw T n [64] (zst T n 35 (zfw T n [103, 111, 32] q0)))) (zu (zsp (zu (zsp (zu (zu zM0 398 18 ((zM0 398 18) + 1)) 407 (4 * (zM0 398 18)) 103) (zst T n 35 (zfw T n [103, 111, 32] q0))) 407 ((4 * (zM0 398 18)) + 1) (if 0 ≤ zst T n 35 (zfw T n [103, 111, 32] q0) then znv T n 35 (zfw T n [103, 111, 32] q0) else 0)) (zst T n 35 (zfw T n [64] (zst T n 35 (zfw T n [103, 111, 32] q0))))) 407 ((4 * (zM0 398 18)) + 2) (if 0 ≤ zst T n 35 (zfw T n [64] (zst T n 35 (zfw T n [103, 111, 32] q0))) then znv T n 35 (zfw T n [64] (zst T n 35 (zfw T n [103, 111, 32] q0))) else 0)) := zPS_zu hPs134 (by decide) (by omega)
                  refine z_goto C0 (tgt := 360) dX12_readCommand_343 (by decide) ?_
                  have hkn : zkn T n q0 = 6 := by unfold zkn; rw [if_neg (by omega), if_neg (by omega), if_neg (by omega), if_neg (by omega), if_pos (by omega)]
                  have hQ : zEn T n q0 = (zst T n 35 (zfw T n [64] (zst T n 35 (zfw T n [103, 111, 32] q0)))) := by unfold zEn; rw [hkn]; rfl
                  have hRC : zRC T n q0 (zM0 398 18) zM0 (zu (zsp (zu (zsp (zu (zu zM0 398 18 ((zM0 398 18) + 1)) 407 (4 * (zM0 398 18)) 103) (zst T n 35 (zfw T n [103, 111, 32] q0))) 407 ((4 * (zM0 398 18)) + 1) (if 0 ≤ zst T n 35 (zfw T n [103, 111, 32] q0) then znv T n 35 (zfw T n [103, 111, 32] q0) else 0)) (zst T n 35 (zfw T n [64] (zst T n 35 (zfw T n [103, 111, 32] q0))))) 407 ((4 * (zM0 398 18)) + 2) (if 0 ≤ zst T n 35 (zfw T n [64] (zst T n 35 (zfw T n [103, 111, 32] q0))) then znv T n 35 (zfw T n [64] (zst T n 35 (zfw T n [103, 111, 32] q0))) else 0)) := by
                    refine ⟨by rw [hQ]; exact hPs135, ((zu_ne (by omega)).trans ((zsp_398 (by omega) (by omega)).trans ((zu_ne (by omega)).trans ((zsp_398 (by omega) (by omega)).trans ((zu_ne (by omega)).trans (zu_same _ _ _ _)))))), by rw [hkn]; exact ((zu_ne (by omega)).trans ((zsp_row (by omega) _).trans ((zu_ne (by omega)).trans ((zsp_row (by omega) _).trans (zu_same _ _ _ _))))), fun hq j j0 j1 => ?_, fun i h1 h2 => ?_, fun j h1 h2 h3 => ?_, fun j h => ?_⟩
                    · rw [hQ] at hq; rw [hkn] at j1; unfold zka; rw [hkn]
                      have j1 : j < 2 := j1
                      have hj : j = 0 ∨ j = 1 := by omega
                      rcases hj with rfl | rfl
                      · exact (((zu_ne (by omega)).trans ((zsp_row (by omega) _).trans (zu_at (by omega) (by omega))))).trans (if_pos (zfw_ge (zst_ge hq)))
                      · exact ((zu_at (by omega) (by omega))).trans (if_pos hq)
                    · rw [zu_row (by omega), zsp_rw (by omega), zu_row (by omega), zsp_rw (by omega), zu_row (by omega), zu_row (by omega)]
                    · rw [zu_ne (by omega), zsp_398 (by omega) (by omega), zu_ne (by omega), zsp_398 (by omega) (by omega), zu_ne (by omega), zu_ne (by omega)]
                    · rw [zu_ne (by omega), zsp_row (by omega) _, zu_ne (by omega), zsp_row (by omega) _, zu_ne (by omega), zu_ne (by omega)]
                  exact z_vret C0 Wd hret hlk ⟨hRC, rfl⟩ dX12_readCommand_360
              · skip
                refine z_aload_n C0 hl 3 rfl dX12_readCommand_276 ?_
                refine zg_9_17 C0 Wd zN398 zK398 zk_1629 dX12_readCommand_277 ?_
                refine z_iload_n C0 hl 0 rfl dX12_readCommand_280 ?_
                refine z_bipush C0 dX12_readCommand_281 (by decide) ?_
                refine z_iast C0 Wd zN407 zK407 zL407 (by omega) (by omega) (by decide) (zR_mk (by decide) (by decide)) dX12_readCommand_283 (fun H locs Wd => ?_)
                have hPs136 : zPS T n q0 (zu (zu zM0 398 18 ((zM0 398 18) + 1)) 407 (4 * (zM0 398 18)) 108) := zPS_zu hPs12 (by decide) (by omega)
                refine z_aload_n C0 hl 3 rfl dX12_readCommand_284 ?_
                refine zg_9_17 C0 Wd zN398 zK398 zk_1629 dX12_readCommand_285 ?_
                refine z_iload_n C0 hl 0 rfl dX12_readCommand_288 ?_
                refine z_iconst C0 dX12_readCommand_289 ?_
                refine z_iadd C0 dX12_readCommand_290 ?_
                refine z_aload_n C0 hl 3 rfl dX12_readCommand_291 ?_
                refine z_ldcr C0 (zc_r C0 (q := ("DrumWarrenModel", 248, "listen ", 49)) (List.mem_of_getElem? (i := 9) rfl)) dX12_readCommand_292 ?_
                refine z_invVi (As := [.ref (g.2.2.2 49)]) (rest := [.int (zI ((4 * (zM0 398 18)) + 1)), .ref (ad 407)]) C0 Wd (ct_X12_readDigit l g ad (zu (zu zM0 398 18 ((zM0 398 18) + 1)) 407 (4 * (zM0 398 18)) 108) zF0 T n q0 (49, 89, [108, 105, 115, 116, 101, 110, 32]) (List.mem_of_getElem? (i := 17) rfl) ([108, 105, 115, 116, 101, 110, 32]) ztl_49 hPs136 hT (by decide +kernel)) kv_X12_readDigit zN398 (zE_9 zK398) rfl zk_2021 rfl hl.1 rfl (Nat.le_of_ble_eq_true rfl) (by decide) (by decide) dX12_readCommand_294 (fun r137 zMr137 zFr137 H locs hrr137 hp Wd => ?_)
                obtain ⟨rfl, rfl, rfl⟩ := hp
                have hPs139 : zPS T n (zst T n 35 (zfw T n [108, 105, 115, 116, 101, 110, 32] q0)) (zsp (zu (zu zM0 398 18 ((zM0 398 18) + 1)) 407 (4 * (zM0 398 18)) 108) (zst T n 35 (zfw T n [108, 105, 115, 116, 101, 110, 32] q0))) := zPS_sp hPs136 (zst_in (zfw_in [108, 105, 115, 116, 101, 110, 32] hPs136.2.2.2.2.2))
                refine z_iast C0 Wd zN407 zK407 zL407 (by omega) (by omega) (by decide) hrr137 dX12_readCommand_297 (fun H locs Wd => ?_)
                have hPs140 : zPS T n (zst T n 35 (zfw T n [108, 105, 115, 116, 101, 110, 32] q0)) (zu (zsp (zu (zu zM0 398 18 ((zM0 398 18) + 1)) 407 (4 * (zM0 398 18)) 108) (zst T n 35 (zfw T n [108, 105, 115, 116, 101, 110, 32] q0))) 407 ((4 * (zM0 398 18)) + 1) (if 0 ≤ zst T n 35 (zfw T n [108, 105, 115, 116, 101, 110, 32] q0) then znv T n 35 (zfw T n [108, 105, 115, 116, 101, 110, 32] q0) else 0)) := zPS_zu hPs139 (by decide) (by omega)
                refine z_goto C0 (tgt := 360) dX12_readCommand_298 (by decide) ?_
                have hkn : zkn T n q0 = 4 := by unfold zkn; rw [if_neg (by omega), if_neg (by omega), if_neg (by omega), if_pos (by omega)]
                have hQ : zEn T n q0 = (zst T n 35 (zfw T n [108, 105, 115, 116, 101, 110, 32] q0)) := by unfold zEn; rw [hkn]; rfl
                have hRC : zRC T n q0 (zM0 398 18) zM0 (zu (zsp (zu (zu zM0 398 18 ((zM0 398 18) + 1)) 407 (4 * (zM0 398 18)) 108) (zst T n 35 (zfw T n [108, 105, 115, 116, 101, 110, 32] q0))) 407 ((4 * (zM0 398 18)) + 1) (if 0 ≤ zst T n 35 (zfw T n [108, 105, 115, 116, 101, 110, 32] q0) then znv T n 35 (zfw T n [108, 105, 115, 116, 101, 110, 32] q0) else 0)) := by
                  refine ⟨by rw [hQ]; exact hPs140, ((zu_ne (by omega)).trans ((zsp_398 (by omega) (by omega)).trans ((zu_ne (by omega)).trans (zu_same _ _ _ _)))), by rw [hkn]; exact ((zu_ne (by omega)).trans ((zsp_row (by omega) _).trans (zu_same _ _ _ _))), fun hq j j0 j1 => ?_, fun i h1 h2 => ?_, fun j h1 h2 h3 => ?_, fun j h => ?_⟩
                  · rw [hQ] at hq; rw [hkn] at j1; unfold zka; rw [hkn]
                    have j1 : j < 1 := j1
                    have hj : j = 0 := by omega
                    rcases hj with rfl
                    · exact ((zu_at (by omega) (by omega))).trans (if_pos hq)
                  · rw [zu_row (by omega), zsp_rw (by omega), zu_row (by omega), zu_row (by omega)]
                  · rw [zu_ne (by omega), zsp_398 (by omega) (by omega), zu_ne (by omega), zu_ne (by omega)]
                  · rw [zu_ne (by omega), zsp_row (by omega) _, zu_ne (by omega), zu_ne (by omega)]
                exact z_vret C0 Wd hret hlk ⟨hRC, rfl⟩ dX12_readCommand_360
            · skip
              refine z_aload_n C0 hl 3 rfl dX12_readCommand_245 ?_
              refine zg_9_17 C0 Wd zN398 zK398 zk_1629 dX12_readCommand_246 ?_
              refine z_iload_n C0 hl 0 rfl dX12_readCommand_249 ?_
              refine z_bipush C0 dX12_readCommand_250 (by decide) ?_
              refine z_iast C0 Wd zN407 zK407 zL407 (by omega) (by omega) (by decide) (zR_mk (by decide) (by decide)) dX12_readCommand_252 (fun H locs Wd => ?_)
              have hPs141 : zPS T n q0 (zu (zu zM0 398 18 ((zM0 398 18) + 1)) 407 (4 * (zM0 398 18)) 104) := zPS_zu hPs12 (by decide) (by omega)
              refine z_aload_n C0 hl 3 rfl dX12_readCommand_253 ?_
              refine zg_9_17 C0 Wd zN398 zK398 zk_1629 dX12_readCommand_254 ?_
              refine z_iload_n C0 hl 0 rfl dX12_readCommand_257 ?_
              refine z_iconst C0 dX12_readCommand_258 ?_
              refine z_iadd C0 dX12_readCommand_259 ?_
              refine z_aload_n C0 hl 3 rfl dX12_readCommand_260 ?_
              refine z_ldcr C0 (zc_r C0 (q := ("DrumWarrenModel", 246, "hare ", 48)) (List.mem_of_getElem? (i := 8) rfl)) dX12_readCommand_261 ?_
              refine z_invVi (As := [.ref (g.2.2.2 48)]) (rest := [.int (zI ((4 * (zM0 398 18)) + 1)), .ref (ad 407)]) C0 Wd (ct_X12_readDigit l g ad (zu (zu zM0 398 18 ((zM0 398 18) + 1)) 407 (4 * (zM0 398 18)) 104) zF0 T n q0 (48, 88, [104, 97, 114, 101, 32]) (List.mem_of_getElem? (i := 16) rfl) ([104, 97, 114, 101, 32]) ztl_48 hPs141 hT (by decide +kernel)) kv_X12_readDigit zN398 (zE_9 zK398) rfl zk_2021 rfl hl.1 rfl (Nat.le_of_ble_eq_true rfl) (by decide) (by decide) dX12_readCommand_263 (fun r142 zMr142 zFr142 H locs hrr142 hp Wd => ?_)
              obtain ⟨rfl, rfl, rfl⟩ := hp
              have hPs144 : zPS T n (zst T n 35 (zfw T n [104, 97, 114, 101, 32] q0)) (zsp (zu (zu zM0 398 18 ((zM0 398 18) + 1)) 407 (4 * (zM0 398 18)) 104) (zst T n 35 (zfw T n [104, 97, 114, 101, 32] q0))) := zPS_sp hPs141 (zst_in (zfw_in [104, 97, 114, 101, 32] hPs141.2.2.2.2.2))
              refine z_iast C0 Wd zN407 zK407 zL407 (by omega) (by omega) (by decide) hrr142 dX12_readCommand_266 (fun H locs Wd => ?_)
              have hPs145 : zPS T n (zst T n 35 (zfw T n [104, 97, 114, 101, 32] q0)) (zu (zsp (zu (zu zM0 398 18 ((zM0 398 18) + 1)) 407 (4 * (zM0 398 18)) 104) (zst T n 35 (zfw T n [104, 97, 114, 101, 32] q0))) 407 ((4 * (zM0 398 18)) + 1) (if 0 ≤ zst T n 35 (zfw T n [104, 97, 114, 101, 32] q0) then znv T n 35 (zfw T n [104, 97, 114, 101, 32] q0) else 0)) := zPS_zu hPs144 (by decide) (by omega)
              refine z_goto C0 (tgt := 360) dX12_readCommand_267 (by decide) ?_
              have hkn : zkn T n q0 = 2 := by unfold zkn; rw [if_neg (by omega), if_neg (by omega), if_pos (by omega)]
              have hQ : zEn T n q0 = (zst T n 35 (zfw T n [104, 97, 114, 101, 32] q0)) := by unfold zEn; rw [hkn]; rfl
              have hRC : zRC T n q0 (zM0 398 18) zM0 (zu (zsp (zu (zu zM0 398 18 ((zM0 398 18) + 1)) 407 (4 * (zM0 398 18)) 104) (zst T n 35 (zfw T n [104, 97, 114, 101, 32] q0))) 407 ((4 * (zM0 398 18)) + 1) (if 0 ≤ zst T n 35 (zfw T n [104, 97, 114, 101, 32] q0) then znv T n 35 (zfw T n [104, 97, 114, 101, 32] q0) else 0)) := by
                refine ⟨by rw [hQ]; exact hPs145, ((zu_ne (by omega)).trans ((zsp_398 (by omega) (by omega)).trans ((zu_ne (by omega)).trans (zu_same _ _ _ _)))), by rw [hkn]; exact ((zu_ne (by omega)).trans ((zsp_row (by omega) _).trans (zu_same _ _ _ _))), fun hq j j0 j1 => ?_, fun i h1 h2 => ?_, fun j h1 h2 h3 => ?_, fun j h => ?_⟩
                · rw [hQ] at hq; rw [hkn] at j1; unfold zka; rw [hkn]
                  have j1 : j < 1 := j1
                  have hj : j = 0 := by omega
                  rcases hj with rfl
                  · exact ((zu_at (by omega) (by omega))).trans (if_pos hq)
                · rw [zu_row (by omega), zsp_rw (by omega), zu_row (by omega), zu_row (by omega)]
                · rw [zu_ne (by omega), zsp_398 (by omega) (by omega), zu_ne (by omega), zu_ne (by omega)]
                · rw [zu_ne (by omega), zsp_row (by omega) _, zu_ne (by omega), zu_ne (by omega)]
              exact z_vret C0 Wd hret hlk ⟨hRC, rfl⟩ dX12_readCommand_360
          · skip
            refine z_aload_n C0 hl 3 rfl dX12_readCommand_181 ?_
            refine zg_9_17 C0 Wd zN398 zK398 zk_1629 dX12_readCommand_182 ?_
            refine z_iload_n C0 hl 0 rfl dX12_readCommand_185 ?_
            refine z_bipush C0 dX12_readCommand_186 (by decide) ?_
            refine z_iast C0 Wd zN407 zK407 zL407 (by omega) (by omega) (by decide) (zR_mk (by decide) (by decide)) dX12_readCommand_188 (fun H locs Wd => ?_)
            have hPs146 : zPS T n q0 (zu (zu zM0 398 18 ((zM0 398 18) + 1)) 407 (4 * (zM0 398 18)) 115) := zPS_zu hPs12 (by decide) (by omega)
            refine z_aload_n C0 hl 3 rfl dX12_readCommand_189 ?_
            refine zg_9_17 C0 Wd zN398 zK398 zk_1629 dX12_readCommand_190 ?_
            refine z_iload_n C0 hl 0 rfl dX12_readCommand_193 ?_
            refine z_iconst C0 dX12_readCommand_194 ?_
            refine z_iadd C0 dX12_readCommand_195 ?_
            refine z_aload_n C0 hl 3 rfl dX12_readCommand_196 ?_
            refine z_ldcr C0 (zc_r C0 (q := ("DrumWarrenModel", 240, "say ", 45)) (List.mem_of_getElem? (i := 5) rfl)) dX12_readCommand_197 ?_
            refine z_invVi (As := [.ref (g.2.2.2 45)]) (rest := [.int (zI ((4 * (zM0 398 18)) + 1)), .ref (ad 407)]) C0 Wd (ct_X12_readDigit l g ad (zu (zu zM0 398 18 ((zM0 398 18) + 1)) 407 (4 * (zM0 398 18)) 115) zF0 T n q0 (45, 85, [115, 97, 121, 32]) (List.mem_of_getElem? (i := 13) rfl) ([115, 97, 121, 32]) ztl_45 hPs146 hT (by decide +kernel)) kv_X12_readDigit zN398 (zE_9 zK398) rfl zk_2021 rfl hl.1 rfl (Nat.le_of_ble_eq_true rfl) (by decide) (by decide) dX12_readCommand_199 (fun r147 zMr147 zFr147 H locs hrr147 hp Wd => ?_)
            obtain ⟨rfl, rfl, rfl⟩ := hp
            have hPs149 : zPS T n (zst T n 35 (zfw T n [115, 97, 121, 32] q0)) (zsp (zu (zu zM0 398 18 ((zM0 398 18) + 1)) 407 (4 * (zM0 398 18)) 115) (zst T n 35 (zfw T n [115, 97, 121, 32] q0))) := zPS_sp hPs146 (zst_in (zfw_in [115, 97, 121, 32] hPs146.2.2.2.2.2))
            refine z_iast C0 Wd zN407 zK407 zL407 (by omega) (by omega) (by decide) hrr147 dX12_readCommand_202 (fun H locs Wd => ?_)
            have hPs150 : zPS T n (zst T n 35 (zfw T n [115, 97, 121, 32] q0)) (zu (zsp (zu (zu zM0 398 18 ((zM0 398 18) + 1)) 407 (4 * (zM0 398 18)) 115) (zst T n 35 (zfw T n [115, 97, 121, 32] q0))) 407 ((4 * (zM0 398 18)) + 1) (if 0 ≤ zst T n 35 (zfw T n [115, 97, 121, 32] q0) then znv T n 35 (zfw T n [115, 97, 121, 32] q0) else 0)) := zPS_zu hPs149 (by decide) (by omega)
            refine z_aload_n C0 hl 3 rfl dX12_readCommand_203 ?_
            refine zg_9_17 C0 Wd zN398 zK398 zk_1629 dX12_readCommand_204 ?_
            refine z_iload_n C0 hl 0 rfl dX12_readCommand_207 ?_
            refine z_iconst C0 dX12_readCommand_208 ?_
            refine z_iadd C0 dX12_readCommand_209 ?_
            refine z_aload_n C0 hl 3 rfl dX12_readCommand_210 ?_
            refine z_ldcr C0 (zc_r C0 (q := ("DrumWarrenModel", 242, ">", 46)) (List.mem_of_getElem? (i := 6) rfl)) dX12_readCommand_211 ?_
            refine z_invVi (As := [.ref (g.2.2.2 46)]) (rest := [.int (zI ((4 * (zM0 398 18)) + 2)), .ref (ad 407)]) C0 Wd (ct_X12_readDigit l g ad (zu (zsp (zu (zu zM0 398 18 ((zM0 398 18) + 1)) 407 (4 * (zM0 398 18)) 115) (zst T n 35 (zfw T n [115, 97, 121, 32] q0))) 407 ((4 * (zM0 398 18)) + 1) (if 0 ≤ zst T n 35 (zfw T n [115, 97, 121, 32] q0) then znv T n 35 (zfw T n [115, 97, 121, 32] q0) else 0)) zF0 T n (zst T n 35 (zfw T n [115, 97, 121, 32] q0)) (46, 86, [62]) (List.mem_of_getElem? (i := 14) rfl) ([62]) ztl_46 hPs150 hT (by decide +kernel)) kv_X12_readDigit zN398 (zE_9 zK398) rfl zk_2021 rfl hl.1 rfl (Nat.le_of_ble_eq_true rfl) (by decide) (by decide) dX12_readCommand_213 (fun r151 zMr151 zFr151 H locs hrr151 hp Wd => ?_)
            obtain ⟨rfl, rfl, rfl⟩ := hp
            have hPs153 : zPS T n (zst T n 35 (zfw T n [62] (zst T n 35 (zfw T n [115, 97, 121, 32] q0)))) (zsp (zu (zsp (zu (zu zM0 398 18 ((zM0 398 18) + 1)) 407 (4 * (zM0 398 18)) 115) (zst T n 35 (zfw T n [115, 97, 121, 32] q0))) 407 ((4 * (zM0 398 18)) + 1) (if 0 ≤ zst T n 35 (zfw T n [115, 97, 121, 32] q0) then znv T n 35 (zfw T n [115, 97, 121, 32] q0) else 0)) (zst T n 35 (zfw T n [62] (zst T n 35 (zfw T n [115, 97, 121, 32] q0))))) := zPS_sp hPs150 (zst_in (zfw_in [62] hPs150.2.2.2.2.2))
            refine z_iast C0 Wd zN407 zK407 zL407 (by omega) (by omega) (by decide) hrr151 dX12_readCommand_216 (fun H locs Wd => ?_)
            have hPs154 : zPS T n (zst T n 35 (zfw T n [62] (zst T n 35 (zfw T n [115, 97, 121, 32] q0)))) (zu (zsp (zu (zsp (zu (zu zM0 398 18 ((zM0 398 18) + 1)) 407 (4 * (zM0 398 18)) 115) (zst T n 35 (zfw T n [115, 97, 121, 32] q0))) 407 ((4 * (zM0 398 18)) + 1) (if 0 ≤ zst T n 35 (zfw T n [115, 97, 121, 32] q0) then znv T n 35 (zfw T n [115, 97, 121, 32] q0) else 0)) (zst T n 35 (zfw T n [62] (zst T n 35 (zfw T n [115, 97, 121, 32] q0))))) 407 ((4 * (zM0 398 18)) + 2) (if 0 ≤ zst T n 35 (zfw T n [62] (zst T n 35 (zfw T n [115, 97, 121, 32] q0))) then znv T n 35 (zfw T n [62] (zst T n 35 (zfw T n [115, 97, 121, 32] q0))) else 0)) := zPS_zu hPs153 (by decide) (by omega)
            refine z_aload_n C0 hl 3 rfl dX12_readCommand_217 ?_
            refine z_ldcr C0 (zc_r C0 (q := ("DrumWarrenModel", 244, "=", 47)) (List.mem_of_getElem? (i := 7) rfl)) dX12_readCommand_218 ?_
            refine z_invVv (As := [.ref (g.2.2.2 47)]) (rest := []) C0 Wd (ct_X12_skip l g ad (zu (zsp (zu (zsp (zu (zu zM0 398 18 ((zM0 398 18) + 1)) 407 (4 * (zM0 398 18)) 115) (zst T n 35 (zfw T n [115, 97, 121, 32] q0))) 407 ((4 * (zM0 398 18)) + 1) (if 0 ≤ zst T n 35 (zfw T n [115, 97, 121, 32] q0) then znv T n 35 (zfw T n [115, 97, 121, 32] q0) else 0)) (zst T n 35 (zfw T n [62] (zst T n 35 (zfw T n [115, 97, 121, 32] q0))))) 407 ((4 * (zM0 398 18)) + 2) (if 0 ≤ zst T n 35 (zfw T n [62] (zst T n 35 (zfw T n [115, 97, 121, 32] q0))) then znv T n 35 (zfw T n [62] (zst T n 35 (zfw T n [115, 97, 121, 32] q0))) else 0)) zF0 T n (zst T n 35 (zfw T n [62] (zst T n 35 (zfw T n [115, 97, 121, 32] q0)))) (47, 87, [61]) (List.mem_of_getElem? (i := 15) rfl) ([61]) ztl_47 hPs154 hT (by decide +kernel)) kv_X12_skip zN398 (zE_9 zK398) rfl zk_2025 rfl hl.1 rfl (Nat.le_of_ble_eq_true rfl) (by decide) (by decide) dX12_readCommand_220 (fun zMr155 zFr155 H locs hp Wd => ?_)
            obtain ⟨rfl, rfl⟩ := hp
            have hPs157 : zPS T n (zfw T n [61] (zst T n 35 (zfw T n [62] (zst T n 35 (zfw T n [115, 97, 121, 32] q0))))) (zsp (zu (zsp (zu (zsp (zu (zu zM0 398 18 ((zM0 398 18) + 1)) 407 (4 * (zM0 398 18)) 115) (zst T n 35 (zfw T n [115, 97, 121, 32] q0))) 407 ((4 * (zM0 398 18)) + 1) (if 0 ≤ zst T n 35 (zfw T n [115, 97, 121, 32] q0) then znv T n 35 (zfw T n [115, 97, 121, 32] q0) else 0)) (zst T n 35 (zfw T n [62] (zst T n 35 (zfw T n [115, 97, 121, 32] q0))))) 407 ((4 * (zM0 398 18)) + 2) (if 0 ≤ zst T n 35 (zfw T n [62] (zst T n 35 (zfw T n [115, 97, 121, 32] q0))) then znv T n 35 (zfw T n [62] (zst T n 35 (zfw T n [115, 97, 121, 32] q0))) else 0)) (zfw T n [61] (zst T n 35 (zfw T n [62] (zst T n 35 (zfw T n [115, 97, 121, 32] q0)))))) := zPS_sp hPs154 (zfw_in [61] hPs154.2.2.2.2.2)
            refine z_aload_n C0 hl 3 rfl dX12_readCommand_223 ?_
            refine zg_9_17 C0 Wd zN398 zK398 zk_1629 dX12_readCommand_224 ?_
            refine z_iload_n C0 hl 0 rfl dX12_readCommand_227 ?_
            refine z_iconst C0 dX12_readCommand_228 ?_
            refine z_iadd C0 dX12_readCommand_229 ?_
            refine z_aload_n C0 hl 3 rfl dX12_readCommand_230 ?_
            refine z_iconst C0 dX12_readCommand_231 ?_
            refine z_invVi (As := [.int (zI 2)]) (rest := [.int (zI ((4 * (zM0 398 18)) + 3)), .ref (ad 407)]) C0 Wd (ct_X12_readNumber_2 l g ad (zsp (zu (zsp (zu (zsp (zu (zu zM0 398 18 ((zM0 398 18) + 1)) 407 (4 * (zM0 398 18)) 115) (zst T n 35 (zfw T n [115, 97, 121, 32] q0))) 407 ((4 * (zM0 398 18)) + 1) (if 0 ≤ zst T n 35 (zfw T n [115, 97, 121, 32] q0) then znv T n 35 (zfw T n [115, 97, 121, 32] q0) else 0)) (zst T n 35 (zfw T n [62] (zst T n 35 (zfw T n [115, 97, 121, 32] q0))))) 407 ((4 * (zM0 398 18)) + 2) (if 0 ≤ zst T n 35 (zfw T n [62] (zst T n 35 (zfw T n [115, 97, 121, 32] q0))) then znv T n 35 (zfw T n [62] (zst T n 35 (zfw T n [115, 97, 121, 32] q0))) else 0)) (zfw T n [61] (zst T n 35 (zfw T n [62] (zst T n 35 (zfw T n [115, 97, 121, 32] q0)))))) zF0 T n (zfw T n [61] (zst T n 35 (zfw T n [62] (zst T n 35 (zfw T n [115, 97, 121, 32] q0))))) 2 (zR_mk (by decide) (by decide)) hPs157 hT (by omega)) kv_X12_readNumber zN398 (zE_9 zK398) rfl zk_2031 rfl hl.1 rfl (Nat.le_of_ble_eq_true rfl) (by decide) (by decide) dX12_readCommand_232 (fun r158 zMr158 zFr158 H locs hrr158 hp Wd => ?_)
            obtain ⟨rfl, rfl, rfl⟩ := hp
            have hPs160 : zPS T n (zst T n 37 (zfw T n [61] (zst T n 35 (zfw T n [62] (zst T n 35 (zfw T n [115, 97, 121, 32] q0)))))) (zsp (zsp (zu (zsp (zu (zsp (zu (zu zM0 398 18 ((zM0 398 18) + 1)) 407 (4 * (zM0 398 18)) 115) (zst T n 35 (zfw T n [115, 97, 121, 32] q0))) 407 ((4 * (zM0 398 18)) + 1) (if 0 ≤ zst T n 35 (zfw T n [115, 97, 121, 32] q0) then znv T n 35 (zfw T n [115, 97, 121, 32] q0) else 0)) (zst T n 35 (zfw T n [62] (zst T n 35 (zfw T n [115, 97, 121, 32] q0))))) 407 ((4 * (zM0 398 18)) + 2) (if 0 ≤ zst T n 35 (zfw T n [62] (zst T n 35 (zfw T n [115, 97, 121, 32] q0))) then znv T n 35 (zfw T n [62] (zst T n 35 (zfw T n [115, 97, 121, 32] q0))) else 0)) (zfw T n [61] (zst T n 35 (zfw T n [62] (zst T n 35 (zfw T n [115, 97, 121, 32] q0)))))) (zst T n 37 (zfw T n [61] (zst T n 35 (zfw T n [62] (zst T n 35 (zfw T n [115, 97, 121, 32] q0))))))) := zPS_sp hPs157 (zst_in hPs157.2.2.2.2.2)
            refine z_iast C0 Wd zN407 zK407 zL407 (by omega) (by omega) (by decide) hrr158 dX12_readCommand_235 (fun H locs Wd => ?_)
            have hPs161 : zPS T n (zst T n 37 (zfw T n [61] (zst T n 35 (zfw T n [62] (zst T n 35 (zfw T n [115, 97, 121, 32] q0)))))) (zu (zsp (zsp (zu (zsp (zu (zsp (zu (zu zM0 398 18 ((zM0 398 18) + 1)) 407 (4 * (zM0 398 18)) 115) (zst T n 35 (zfw T n [115, 97, 121, 32] q0))) 407 ((4 * (zM0 398 18)) + 1) (if 0 ≤ zst T n 35 (zfw T n [115, 97, 121, 32] q0) then znv T n 35 (zfw T n [115, 97, 121, 32] q0) else 0)) (zst T n 35 (zfw T n [62] (zst T n 35 (zfw T n [115, 97, 121, 32] q0))))) 407 ((4 * (zM0 398 18)) + 2) (if 0 ≤ zst T n 35 (zfw T n [62] (zst T n 35 (zfw T n [115, 97, 121, 32] q0))) then znv T n 35 (zfw T n [62] (zst T n 35 (zfw T n [115, 97, 121, 32] q0))) else 0)) (zfw T n [61] (zst T n 35 (zfw T n [62] (zst T n 35 (zfw T n [115, 97, 121, 32] q0)))))) (zst T n 37 (zfw T n [61] (zst T n 35 (zfw T n [62] (zst T n 35 (zfw T n [115, 97, 121, 32] q0))))))) 407 ((4 * (zM0 398 18)) + 3) (if 0 ≤ zst T n 37 (zfw T n [61] (zst T n 35 (zfw T n [62] (zst T n 35 (zfw T n [115, 97, 121, 32] q0))))) then znv T n 37 (zfw T n [61] (zst T n 35 (zfw T n [62] (zst T n 35 (zfw T n [115, 97, 121, 32] q0))))) else 0)) := zPS_zu hPs160 (by decide) (by omega)
            refine z_goto C0 (tgt := 360) dX12_readCommand_236 (by decide) ?_
            have hkn : zkn T n q0 = 3 := by unfold zkn; rw [if_neg (by omega), if_pos (by omega), if_neg (by omega)]
            have hQ : zEn T n q0 = (zst T n 37 (zfw T n [61] (zst T n 35 (zfw T n [62] (zst T n 35 (zfw T n [115, 97, 121, 32] q0)))))) := by unfold zEn; rw [hkn]; rfl
            have hRC : zRC T n q0 (zM0 398 18) zM0 (zu (zsp (zsp (zu (zsp (zu (zsp (zu (zu zM0 398 18 ((zM0 398 18) + 1)) 407 (4 * (zM0 398 18)) 115) (zst T n 35 (zfw T n [115, 97, 121, 32] q0))) 407 ((4 * (zM0 398 18)) + 1) (if 0 ≤ zst T n 35 (zfw T n [115, 97, 121, 32] q0) then znv T n 35 (zfw T n [115, 97, 121, 32] q0) else 0)) (zst T n 35 (zfw T n [62] (zst T n 35 (zfw T n [115, 97, 121, 32] q0))))) 407 ((4 * (zM0 398 18)) + 2) (if 0 ≤ zst T n 35 (zfw T n [62] (zst T n 35 (zfw T n [115, 97, 121, 32] q0))) then znv T n 35 (zfw T n [62] (zst T n 35 (zfw T n [115, 97, 121, 32] q0))) else 0)) (zfw T n [61] (zst T n 35 (zfw T n [62] (zst T n 35 (zfw T n [115, 97, 121, 32] q0)))))) (zst T n 37 (zfw T n [61] (zst T n 35 (zfw T n [62] (zst T n 35 (zfw T n [115, 97, 121, 32] q0))))))) 407 ((4 * (zM0 398 18)) + 3) (if 0 ≤ zst T n 37 (zfw T n [61] (zst T n 35 (zfw T n [62] (zst T n 35 (zfw T n [115, 97, 121, 32] q0))))) then znv T n 37 (zfw T n [61] (zst T n 35 (zfw T n [62] (zst T n 35 (zfw T n [115, 97, 121, 32] q0))))) else 0)) := by
              refine ⟨by rw [hQ]; exact hPs161, ((zu_ne (by omega)).trans ((zsp_398 (by omega) (by omega)).trans ((zsp_398 (by omega) (by omega)).trans ((zu_ne (by omega)).trans ((zsp_398 (by omega) (by omega)).trans ((zu_ne (by omega)).trans ((zsp_398 (by omega) (by omega)).trans ((zu_ne (by omega)).trans (zu_same _ _ _ _))))))))), by rw [hkn]; exact ((zu_ne (by omega)).trans ((zsp_row (by omega) _).trans ((zsp_row (by omega) _).trans ((zu_ne (by omega)).trans ((zsp_row (by omega) _).trans ((zu_ne (by omega)).trans ((zsp_row (by omega) _).trans (zu_same _ _ _ _)))))))), fun hq j j0 j1 => ?_, fun i h1 h2 => ?_, fun j h1 h2 h3 => ?_, fun j h => ?_⟩
              · rw [hQ] at hq; rw [hkn] at j1; unfold zka; rw [hkn]
                have j1 : j < 3 := j1
                have hj : j = 0 ∨ j = 1 ∨ j = 2 := by omega
                rcases hj with rfl | rfl | rfl
                · exact (((zu_ne (by omega)).trans ((zsp_row (by omega) _).trans ((zsp_row (by omega) _).trans ((zu_ne (by omega)).trans ((zsp_row (by omega) _).trans (zu_at (by omega) (by omega)))))))).trans (if_pos (zfw_ge (zst_ge (zfw_ge (zst_ge hq)))))
                · exact (((zu_ne (by omega)).trans ((zsp_row (by omega) _).trans ((zsp_row (by omega) _).trans (zu_at (by omega) (by omega)))))).trans (if_pos (zfw_ge (zst_ge hq)))
                · exact ((zu_at (by omega) (by omega))).trans (if_pos hq)
              · rw [zu_row (by omega), zsp_rw (by omega), zsp_rw (by omega), zu_row (by omega), zsp_rw (by omega), zu_row (by omega), zsp_rw (by omega), zu_row (by omega), zu_row (by omega)]
              · rw [zu_ne (by omega), zsp_398 (by omega) (by omega), zsp_398 (by omega) (by omega), zu_ne (by omega), zsp_398 (by omega) (by omega), zu_ne (by omega), zsp_398 (by omega) (by omega), zu_ne (by omega), zu_ne (by omega)]
              · rw [zu_ne (by omega), zsp_row (by omega) _, zsp_row (by omega) _, zu_ne (by omega), zsp_row (by omega) _, zu_ne (by omega), zsp_row (by omega) _, zu_ne (by omega), zu_ne (by omega)]
            exact z_vret C0 Wd hret hlk ⟨hRC, rfl⟩ dX12_readCommand_360
        · skip
          refine z_iload_n C0 hl 1 rfl dX12_readCommand_144 ?_
          refine z_bipush C0 dX12_readCommand_145 (by decide) ?_
          refine z_icmp_ne C0 (tgt := 175) hbqs (zR_mk (by decide) (by decide)) dX12_readCommand_147 (by decide) (fun c162 => ?_) (fun c162 => ?_)
          · skip
            refine z_iload_n C0 hl 2 rfl dX12_readCommand_175 ?_
            refine z_bipush C0 dX12_readCommand_176 (by decide) ?_
            refine z_icmp_ne C0 (tgt := 239) hbqf (zR_mk (by decide) (by decide)) dX12_readCommand_178 (by decide) (fun c163 => ?_) (fun c163 => ?_)
            · skip
              refine z_iload_n C0 hl 2 rfl dX12_readCommand_239 ?_
              refine z_bipush C0 dX12_readCommand_240 (by decide) ?_
              refine z_icmp_ne C0 (tgt := 270) hbqf (zR_mk (by decide) (by decide)) dX12_readCommand_242 (by decide) (fun c164 => ?_) (fun c164 => ?_)
              · skip
                refine z_iload_n C0 hl 2 rfl dX12_readCommand_270 ?_
                refine z_bipush C0 dX12_readCommand_271 (by decide) ?_
                refine z_icmp_ne C0 (tgt := 301) hbqf (zR_mk (by decide) (by decide)) dX12_readCommand_273 (by decide) (fun c165 => ?_) (fun c165 => ?_)
                · skip
                  refine z_iload_n C0 hl 2 rfl dX12_readCommand_301 ?_
                  refine z_bipush C0 dX12_readCommand_302 (by decide) ?_
                  refine z_icmp_ne C0 (tgt := 346) hbqf (zR_mk (by decide) (by decide)) dX12_readCommand_304 (by decide) (fun c166 => ?_) (fun c166 => ?_)
                  · skip
                    refine z_aload_n C0 hl 3 rfl dX12_readCommand_346 ?_
                    refine zg_9_17 C0 Wd zN398 zK398 zk_1629 dX12_readCommand_347 ?_
                    refine z_iload_n C0 hl 0 rfl dX12_readCommand_350 ?_
                    refine z_bipush C0 dX12_readCommand_351 (by decide) ?_
                    refine z_iast C0 Wd zN407 zK407 zL407 (by omega) (by omega) (by decide) (zR_mk (by decide) (by decide)) dX12_readCommand_353 (fun H locs Wd => ?_)
                    have hPs167 : zPS T n q0 (zu (zu zM0 398 18 ((zM0 398 18) + 1)) 407 (4 * (zM0 398 18)) 99) := zPS_zu hPs12 (by decide) (by omega)
                    refine z_aload_n C0 hl 3 rfl dX12_readCommand_354 ?_
                    refine z_ldcr C0 (zc_r C0 (q := ("DrumWarrenModel", 254, "chamber", 52)) (List.mem_of_getElem? (i := 12) rfl)) dX12_readCommand_355 ?_
                    refine z_invVv (As := [.ref (g.2.2.2 52)]) (rest := []) C0 Wd (ct_X12_skip l g ad (zu (zu zM0 398 18 ((zM0 398 18) + 1)) 407 (4 * (zM0 398 18)) 99) zF0 T n q0 (52, 92, [99, 104, 97, 109, 98, 101, 114]) (List.mem_of_getElem? (i := 20) rfl) ([99, 104, 97, 109, 98, 101, 114]) ztl_52 hPs167 hT (by decide +kernel)) kv_X12_skip zN398 (zE_9 zK398) rfl zk_2025 rfl hl.1 rfl (Nat.le_of_ble_eq_true rfl) (by decide) (by decide) dX12_readCommand_357 (fun zMr168 zFr168 H locs hp Wd => ?_)
                    obtain ⟨rfl, rfl⟩ := hp
                    have hPs170 : zPS T n (zfw T n [99, 104, 97, 109, 98, 101, 114] q0) (zsp (zu (zu zM0 398 18 ((zM0 398 18) + 1)) 407 (4 * (zM0 398 18)) 99) (zfw T n [99, 104, 97, 109, 98, 101, 114] q0)) := zPS_sp hPs167 (zfw_in [99, 104, 97, 109, 98, 101, 114] hPs167.2.2.2.2.2)
                    have hkn : zkn T n q0 = 0 := by unfold zkn; rw [if_neg (by omega), if_neg (by omega), if_neg (by omega), if_neg (by omega), if_neg (by omega)]
                    have hQ : zEn T n q0 = (zfw T n [99, 104, 97, 109, 98, 101, 114] q0) := by unfold zEn; rw [hkn]; rfl
                    have hRC : zRC T n q0 (zM0 398 18) zM0 (zsp (zu (zu zM0 398 18 ((zM0 398 18) + 1)) 407 (4 * (zM0 398 18)) 99) (zfw T n [99, 104, 97, 109, 98, 101, 114] q0)) := by
                      refine ⟨by rw [hQ]; exact hPs170, ((zsp_398 (by omega) (by omega)).trans ((zu_ne (by omega)).trans (zu_same _ _ _ _))), by rw [hkn]; exact ((zsp_row (by omega) _).trans (zu_same _ _ _ _)), fun hq j j0 j1 => ?_, fun i h1 h2 => ?_, fun j h1 h2 h3 => ?_, fun j h => ?_⟩
                      · rw [hQ] at hq; rw [hkn] at j1; unfold zka; rw [hkn]
                        exact absurd j1 (by show ¬ j < 0; omega)
                      · rw [zsp_rw (by omega), zu_row (by omega), zu_row (by omega)]
                      · rw [zsp_398 (by omega) (by omega), zu_ne (by omega), zu_ne (by omega)]
                      · rw [zsp_row (by omega) _, zu_ne (by omega), zu_ne (by omega)]
                    exact z_vret C0 Wd hret hlk ⟨hRC, rfl⟩ dX12_readCommand_360
                  · skip
                    refine z_aload_n C0 hl 3 rfl dX12_readCommand_307 ?_
                    refine zg_9_17 C0 Wd zN398 zK398 zk_1629 dX12_readCommand_308 ?_
                    refine z_iload_n C0 hl 0 rfl dX12_readCommand_311 ?_
                    refine z_bipush C0 dX12_readCommand_312 (by decide) ?_
                    refine z_iast C0 Wd zN407 zK407 zL407 (by omega) (by omega) (by decide) (zR_mk (by decide) (by decide)) dX12_readCommand_314 (fun H locs Wd => ?_)
                    have hPs171 : zPS T n q0 (zu (zu zM0 398 18 ((zM0 398 18) + 1)) 407 (4 * (zM0 398 18)) 103) := zPS_zu hPs12 (by decide) (by omega)
                    refine z_aload_n C0 hl 3 rfl dX12_readCommand_315 ?_
                    refine zg_9_17 C0 Wd zN398 zK398 zk_1629 dX12_readCommand_316 ?_
                    refine z_iload_n C0 hl 0 rfl dX12_readCommand_319 ?_
                    refine z_iconst C0 dX12_readCommand_320 ?_
                    refine z_iadd C0 dX12_readCommand_321 ?_
                    refine z_aload_n C0 hl 3 rfl dX12_readCommand_322 ?_
                    refine z_ldcr C0 (zc_r C0 (q := ("DrumWarrenModel", 250, "go ", 50)) (List.mem_of_getElem? (i := 10) rfl)) dX12_readCommand_323 ?_
                    refine z_invVi (As := [.ref (g.2.2.2 50)]) (rest := [.int (zI ((4 * (zM0 398 18)) + 1)), .ref (ad 407)]) C0 Wd (ct_X12_readDigit l g ad (zu (zu zM0 398 18 ((zM0 398 18) + 1)) 407 (4 * (zM0 398 18)) 103) zF0 T n q0 (50, 90, [103, 111, 32]) (List.mem_of_getElem? (i := 18) rfl) ([103, 111, 32]) ztl_50 hPs171 hT (by decide +kernel)) kv_X12_readDigit zN398 (zE_9 zK398) rfl zk_2021 rfl hl.1 rfl (Nat.le_of_ble_eq_true rfl) (by decide) (by decide) dX12_readCommand_325 (fun r172 zMr172 zFr172 H locs hrr172 hp Wd => ?_)
                    obtain ⟨rfl, rfl, rfl⟩ := hp
                    have hPs174 : zPS T n (zst T n 35 (zfw T n [103, 111, 32] q0)) (zsp (zu (zu zM0 398 18 ((zM0 398 18) + 1)) 407 (4 * (zM0 398 18)) 103) (zst T n 35 (zfw T n [103, 111, 32] q0))) := zPS_sp hPs171 (zst_in (zfw_in [103, 111, 32] hPs171.2.2.2.2.2))
                    refine z_iast C0 Wd zN407 zK407 zL407 (by omega) (by omega) (by decide) hrr172 dX12_readCommand_328 (fun H locs Wd => ?_)
                    have hPs175 : zPS T n (zst T n 35 (zfw T n [103, 111, 32] q0)) (zu (zsp (zu (zu zM0 398 18 ((zM0 398 18) + 1)) 407 (4 * (zM0 398 18)) 103) (zst T n 35 (zfw T n [103, 111, 32] q0))) 407 ((4 * (zM0 398 18)) + 1) (if 0 ≤ zst T n 35 (zfw T n [103, 111, 32] q0) then znv T n 35 (zfw T n [103, 111, 32] q0) else 0)) := zPS_zu hPs174 (by decide) (by omega)
                    refine z_aload_n C0 hl 3 rfl dX12_readCommand_329 ?_
                    refine zg_9_17 C0 Wd zN398 zK398 zk_1629 dX12_readCommand_330 ?_
                    refine z_iload_n C0 hl 0 rfl dX12_readCommand_333 ?_
                    refine z_iconst C0 dX12_readCommand_334 ?_
                    refine z_iadd C0 dX12_readCommand_335 ?_
                    refine z_aload_n C0 hl 3 rfl dX12_readCommand_336 ?_
                    refine z_ldcr C0 (zc_r C0 (q := ("DrumWarrenModel", 252, "@", 51)) (List.mem_of_getElem? (i := 11) rfl)) dX12_readCommand_337 ?_
                    refine z_invVi (As := [.ref (g.2.2.2 51)]) (rest := [.int (zI ((4 * (zM0 398 18)) + 2)), .ref (ad 407)]) C0 Wd (ct_X12_readDigit l g ad (zu (zsp (zu (zu zM0 398 18 ((zM0 398 18) + 1)) 407 (4 * (zM0 398 18)) 103) (zst T n 35 (zfw T n [103, 111, 32] q0))) 407 ((4 * (zM0 398 18)) + 1) (if 0 ≤ zst T n 35 (zfw T n [103, 111, 32] q0) then znv T n 35 (zfw T n [103, 111, 32] q0) else 0)) zF0 T n (zst T n 35 (zfw T n [103, 111, 32] q0)) (51, 91, [64]) (List.mem_of_getElem? (i := 19) rfl) ([64]) ztl_51 hPs175 hT (by decide +kernel)) kv_X12_readDigit zN398 (zE_9 zK398) rfl zk_2021 rfl hl.1 rfl (Nat.le_of_ble_eq_true rfl) (by decide) (by decide) dX12_readCommand_339 (fun r176 zMr176 zFr176 H locs hrr176 hp Wd => ?_)
                    obtain ⟨rfl, rfl, rfl⟩ := hp
                    have hPs178 : zPS T n (zst T n 35 (zfw T n [64] (zst T n 35 (zfw T n [103, 111, 32] q0)))) (zsp (zu (zsp (zu (zu zM0 398 18 ((zM0 398 18) + 1)) 407 (4 * (zM0 398 18)) 103) (zst T n 35 (zfw T n [103, 111, 32] q0))) 407 ((4 * (zM0 398 18)) + 1) (if 0 ≤ zst T n 35 (zfw T n [103, 111, 32] q0) then znv T n 35 (zfw T n [103, 111, 32] q0) else 0)) (zst T n 35 (zfw T n [64] (zst T n 35 (zfw T n [103, 111, 32] q0))))) := zPS_sp hPs175 (zst_in (zfw_in [64] hPs175.2.2.2.2.2))
                    refine z_iast C0 Wd zN407 zK407 zL407 (by omega) (by omega) (by decide) hrr176 dX12_readCommand_342 (fun H locs Wd => ?_)
                    have hPs179 : zPS T n (zst T n 35 (zfw T n [64] (zst T n 35 (zfw T n [103, 111, 32] q0)))) (zu (zsp (zu (zsp (zu (zu zM0 398 18 ((zM0 398 18) + 1)) 407 (4 * (zM0 398 18)) 103) (zst T n 35 (zfw T n [103, 111, 32] q0))) 407 ((4 * (zM0 398 18)) + 1) (if 0 ≤ zst T n 35 (zfw T n [103, 111, 32] q0) then znv T n 35 (zfw T n [103, 111, 32] q0) else 0)) (zst T n 35 (zfw T n [64] (zst T n 35 (zfw T n [103, 111, 32] q0))))) 407 ((4 * (zM0 398 18)) + 2) (if 0 ≤ zst T n 35 (zfw T n [64] (zst T n 35 (zfw T n [103, 111, 32] q0))) then znv T n 35 (zfw T n [64] (zst T n 35 (zfw T n [103, 111, 32] q0))) else 0)) := zPS_zu hPs178 (by decide) (by omega)
                    refine z_goto C0 (tgt := 360) dX12_readCommand_343 (by decide) ?_
                    have hkn : zkn T n q0 = 6 := by unfold zkn; rw [if_neg (by omega), if_neg (by omega), if_neg (by omega), if_neg (by omega), if_pos (by omega)]
                    have hQ : zEn T n q0 = (zst T n 35 (zfw T n [64] (zst T n 35 (zfw T n [103, 111, 32] q0)))) := by unfold zEn; rw [hkn]; rfl
                    have hRC : zRC T n q0 (zM0 398 18) zM0 (zu (zsp (zu (zsp (zu (zu zM0 398 18 ((zM0 398 18) + 1)) 407 (4 * (zM0 398 18)) 103) (zst T n 35 (zfw T n [103, 111, 32] q0))) 407 ((4 * (zM0 398 18)) + 1) (if 0 ≤ zst T n 35 (zfw T n [103, 111, 32] q0) then znv T n 35 (zfw T n [103, 111, 32] q0) else 0)) (zst T n 35 (zfw T n [64] (zst T n 35 (zfw T n [103, 111, 32] q0))))) 407 ((4 * (zM0 398 18)) + 2) (if 0 ≤ zst T n 35 (zfw T n [64] (zst T n 35 (zfw T n [103, 111, 32] q0))) then znv T n 35 (zfw T n [64] (zst T n 35 (zfw T n [103, 111, 32] q0))) else 0)) := by
                      refine ⟨by rw [hQ]; exact hPs179, ((zu_ne (by omega)).trans ((zsp_398 (by omega) (by omega)).trans ((zu_ne (by omega)).trans ((zsp_398 (by omega) (by omega)).trans ((zu_ne (by omega)).trans (zu_same _ _ _ _)))))), by rw [hkn]; exact ((zu_ne (by omega)).trans ((zsp_row (by omega) _).trans ((zu_ne (by omega)).trans ((zsp_row (by omega) _).trans (zu_same _ _ _ _))))), fun hq j j0 j1 => ?_, fun i h1 h2 => ?_, fun j h1 h2 h3 => ?_, fun j h => ?_⟩
                      · rw [hQ] at hq; rw [hkn] at j1; unfold zka; rw [hkn]
                        have j1 : j < 2 := j1
                        have hj : j = 0 ∨ j = 1 := by omega
                        rcases hj with rfl | rfl
                        · exact (((zu_ne (by omega)).trans ((zsp_row (by omega) _).trans (zu_at (by omega) (by omega))))).trans (if_pos (zfw_ge (zst_ge hq)))
                        · exact ((zu_at (by omega) (by omega))).trans (if_pos hq)
                      · rw [zu_row (by omega), zsp_rw (by omega), zu_row (by omega), zsp_rw (by omega), zu_row (by omega), zu_row (by omega)]
                      · rw [zu_ne (by omega), zsp_398 (by omega) (by omega), zu_ne (by omega), zsp_398 (by omega) (by omega), zu_ne (by omega), zu_ne (by omega)]
                      · rw [zu_ne (by omega), zsp_row (by omega) _, zu_ne (by omega), zsp_row (by omega) _, zu_ne (by omega), zu_ne (by omega)]
                    exact z_vret C0 Wd hret hlk ⟨hRC, rfl⟩ dX12_readCommand_360
                · skip
                  refine z_aload_n C0 hl 3 rfl dX12_readCommand_276 ?_
                  refine zg_9_17 C0 Wd zN398 zK398 zk_1629 dX12_readCommand_277 ?_
                  refine z_iload_n C0 hl 0 rfl dX12_readCommand_280 ?_
                  refine z_bipush C0 dX12_readCommand_281 (by decide) ?_
                  refine z_iast C0 Wd zN407 zK407 zL407 (by omega) (by omega) (by decide) (zR_mk (by decide) (by decide)) dX12_readCommand_283 (fun H locs Wd => ?_)
                  have hPs180 : zPS T n q0 (zu (zu zM0 398 18 ((zM0 398 18) + 1)) 407 (4 * (zM0 398 18)) 108) := zPS_zu hPs12 (by decide) (by omega)
                  refine z_aload_n C0 hl 3 rfl dX12_readCommand_284 ?_
                  refine zg_9_17 C0 Wd zN398 zK398 zk_1629 dX12_readCommand_285 ?_
                  refine z_iload_n C0 hl 0 rfl dX12_readCommand_288 ?_
                  refine z_iconst C0 dX12_readCommand_289 ?_
                  refine z_iadd C0 dX12_readCommand_290 ?_
                  refine z_aload_n C0 hl 3 rfl dX12_readCommand_291 ?_
                  refine z_ldcr C0 (zc_r C0 (q := ("DrumWarrenModel", 248, "listen ", 49)) (List.mem_of_getElem? (i := 9) rfl)) dX12_readCommand_292 ?_
                  refine z_invVi (As := [.ref (g.2.2.2 49)]) (rest := [.int (zI ((4 * (zM0 398 18)) + 1)), .ref (ad 407)]) C0 Wd (ct_X12_readDigit l g ad (zu (zu zM0 398 18 ((zM0 398 18) + 1)) 407 (4 * (zM0 398 18)) 108) zF0 T n q0 (49, 89, [108, 105, 115, 116, 101, 110, 32]) (List.mem_of_getElem? (i := 17) rfl) ([108, 105, 115, 116, 101, 110, 32]) ztl_49 hPs180 hT (by decide +kernel)) kv_X12_readDigit zN398 (zE_9 zK398) rfl zk_2021 rfl hl.1 rfl (Nat.le_of_ble_eq_true rfl) (by decide) (by decide) dX12_readCommand_294 (fun r181 zMr181 zFr181 H locs hrr181 hp Wd => ?_)
                  obtain ⟨rfl, rfl, rfl⟩ := hp
                  have hPs183 : zPS T n (zst T n 35 (zfw T n [108, 105, 115, 116, 101, 110, 32] q0)) (zsp (zu (zu zM0 398 18 ((zM0 398 18) + 1)) 407 (4 * (zM0 398 18)) 108) (zst T n 35 (zfw T n [108, 105, 115, 116, 101, 110, 32] q0))) := zPS_sp hPs180 (zst_in (zfw_in [108, 105, 115, 116, 101, 110, 32] hPs180.2.2.2.2.2))
                  refine z_iast C0 Wd zN407 zK407 zL407 (by omega) (by omega) (by decide) hrr181 dX12_readCommand_297 (fun H locs Wd => ?_)
                  have hPs184 : zPS T n (zst T n 35 (zfw T n [108, 105, 115, 116, 101, 110, 32] q0)) (zu (zsp (zu (zu zM0 398 18 ((zM0 398 18) + 1)) 407 (4 * (zM0 398 18)) 108) (zst T n 35 (zfw T n [108, 105, 115, 116, 101, 110, 32] q0))) 407 ((4 * (zM0 398 18)) + 1) (if 0 ≤ zst T n 35 (zfw T n [108, 105, 115, 116, 101, 110, 32] q0) then znv T n 35 (zfw T n [108, 105, 115, 116, 101, 110, 32] q0) else 0)) := zPS_zu hPs183 (by decide) (by omega)
                  refine z_goto C0 (tgt := 360) dX12_readCommand_298 (by decide) ?_
                  have hkn : zkn T n q0 = 4 := by unfold zkn; rw [if_neg (by omega), if_neg (by omega), if_neg (by omega), if_pos (by omega)]
                  have hQ : zEn T n q0 = (zst T n 35 (zfw T n [108, 105, 115, 116, 101, 110, 32] q0)) := by unfold zEn; rw [hkn]; rfl
                  have hRC : zRC T n q0 (zM0 398 18) zM0 (zu (zsp (zu (zu zM0 398 18 ((zM0 398 18) + 1)) 407 (4 * (zM0 398 18)) 108) (zst T n 35 (zfw T n [108, 105, 115, 116, 101, 110, 32] q0))) 407 ((4 * (zM0 398 18)) + 1) (if 0 ≤ zst T n 35 (zfw T n [108, 105, 115, 116, 101, 110, 32] q0) then znv T n 35 (zfw T n [108, 105, 115, 116, 101, 110, 32] q0) else 0)) := by
                    refine ⟨by rw [hQ]; exact hPs184, ((zu_ne (by omega)).trans ((zsp_398 (by omega) (by omega)).trans ((zu_ne (by omega)).trans (zu_same _ _ _ _)))), by rw [hkn]; exact ((zu_ne (by omega)).trans ((zsp_row (by omega) _).trans (zu_same _ _ _ _))), fun hq j j0 j1 => ?_, fun i h1 h2 => ?_, fun j h1 h2 h3 => ?_, fun j h => ?_⟩
                    · rw [hQ] at hq; rw [hkn] at j1; unfold zka; rw [hkn]
                      have j1 : j < 1 := j1
                      have hj : j = 0 := by omega
                      rcases hj with rfl
                      · exact ((zu_at (by omega) (by omega))).trans (if_pos hq)
                    · rw [zu_row (by omega), zsp_rw (by omega), zu_row (by omega), zu_row (by omega)]
                    · rw [zu_ne (by omega), zsp_398 (by omega) (by omega), zu_ne (by omega), zu_ne (by omega)]
                    · rw [zu_ne (by omega), zsp_row (by omega) _, zu_ne (by omega), zu_ne (by omega)]
                  exact z_vret C0 Wd hret hlk ⟨hRC, rfl⟩ dX12_readCommand_360
              · skip
                refine z_aload_n C0 hl 3 rfl dX12_readCommand_245 ?_
                refine zg_9_17 C0 Wd zN398 zK398 zk_1629 dX12_readCommand_246 ?_
                refine z_iload_n C0 hl 0 rfl dX12_readCommand_249 ?_
                refine z_bipush C0 dX12_readCommand_250 (by decide) ?_
                refine z_iast C0 Wd zN407 zK407 zL407 (by omega) (by omega) (by decide) (zR_mk (by decide) (by decide)) dX12_readCommand_252 (fun H locs Wd => ?_)
                have hPs185 : zPS T n q0 (zu (zu zM0 398 18 ((zM0 398 18) + 1)) 407 (4 * (zM0 398 18)) 104) := zPS_zu hPs12 (by decide) (by omega)
                refine z_aload_n C0 hl 3 rfl dX12_readCommand_253 ?_
                refine zg_9_17 C0 Wd zN398 zK398 zk_1629 dX12_readCommand_254 ?_
                refine z_iload_n C0 hl 0 rfl dX12_readCommand_257 ?_
                refine z_iconst C0 dX12_readCommand_258 ?_
                refine z_iadd C0 dX12_readCommand_259 ?_
                refine z_aload_n C0 hl 3 rfl dX12_readCommand_260 ?_
                refine z_ldcr C0 (zc_r C0 (q := ("DrumWarrenModel", 246, "hare ", 48)) (List.mem_of_getElem? (i := 8) rfl)) dX12_readCommand_261 ?_
                refine z_invVi (As := [.ref (g.2.2.2 48)]) (rest := [.int (zI ((4 * (zM0 398 18)) + 1)), .ref (ad 407)]) C0 Wd (ct_X12_readDigit l g ad (zu (zu zM0 398 18 ((zM0 398 18) + 1)) 407 (4 * (zM0 398 18)) 104) zF0 T n q0 (48, 88, [104, 97, 114, 101, 32]) (List.mem_of_getElem? (i := 16) rfl) ([104, 97, 114, 101, 32]) ztl_48 hPs185 hT (by decide +kernel)) kv_X12_readDigit zN398 (zE_9 zK398) rfl zk_2021 rfl hl.1 rfl (Nat.le_of_ble_eq_true rfl) (by decide) (by decide) dX12_readCommand_263 (fun r186 zMr186 zFr186 H locs hrr186 hp Wd => ?_)
                obtain ⟨rfl, rfl, rfl⟩ := hp
                have hPs188 : zPS T n (zst T n 35 (zfw T n [104, 97, 114, 101, 32] q0)) (zsp (zu (zu zM0 398 18 ((zM0 398 18) + 1)) 407 (4 * (zM0 398 18)) 104) (zst T n 35 (zfw T n [104, 97, 114, 101, 32] q0))) := zPS_sp hPs185 (zst_in (zfw_in [104, 97, 114, 101, 32] hPs185.2.2.2.2.2))
                refine z_iast C0 Wd zN407 zK407 zL407 (by omega) (by omega) (by decide) hrr186 dX12_readCommand_266 (fun H locs Wd => ?_)
                have hPs189 : zPS T n (zst T n 35 (zfw T n [104, 97, 114, 101, 32] q0)) (zu (zsp (zu (zu zM0 398 18 ((zM0 398 18) + 1)) 407 (4 * (zM0 398 18)) 104) (zst T n 35 (zfw T n [104, 97, 114, 101, 32] q0))) 407 ((4 * (zM0 398 18)) + 1) (if 0 ≤ zst T n 35 (zfw T n [104, 97, 114, 101, 32] q0) then znv T n 35 (zfw T n [104, 97, 114, 101, 32] q0) else 0)) := zPS_zu hPs188 (by decide) (by omega)
                refine z_goto C0 (tgt := 360) dX12_readCommand_267 (by decide) ?_
                have hkn : zkn T n q0 = 2 := by unfold zkn; rw [if_neg (by omega), if_neg (by omega), if_pos (by omega)]
                have hQ : zEn T n q0 = (zst T n 35 (zfw T n [104, 97, 114, 101, 32] q0)) := by unfold zEn; rw [hkn]; rfl
                have hRC : zRC T n q0 (zM0 398 18) zM0 (zu (zsp (zu (zu zM0 398 18 ((zM0 398 18) + 1)) 407 (4 * (zM0 398 18)) 104) (zst T n 35 (zfw T n [104, 97, 114, 101, 32] q0))) 407 ((4 * (zM0 398 18)) + 1) (if 0 ≤ zst T n 35 (zfw T n [104, 97, 114, 101, 32] q0) then znv T n 35 (zfw T n [104, 97, 114, 101, 32] q0) else 0)) := by
                  refine ⟨by rw [hQ]; exact hPs189, ((zu_ne (by omega)).trans ((zsp_398 (by omega) (by omega)).trans ((zu_ne (by omega)).trans (zu_same _ _ _ _)))), by rw [hkn]; exact ((zu_ne (by omega)).trans ((zsp_row (by omega) _).trans (zu_same _ _ _ _))), fun hq j j0 j1 => ?_, fun i h1 h2 => ?_, fun j h1 h2 h3 => ?_, fun j h => ?_⟩
                  · rw [hQ] at hq; rw [hkn] at j1; unfold zka; rw [hkn]
                    have j1 : j < 1 := j1
                    have hj : j = 0 := by omega
                    rcases hj with rfl
                    · exact ((zu_at (by omega) (by omega))).trans (if_pos hq)
                  · rw [zu_row (by omega), zsp_rw (by omega), zu_row (by omega), zu_row (by omega)]
                  · rw [zu_ne (by omega), zsp_398 (by omega) (by omega), zu_ne (by omega), zu_ne (by omega)]
                  · rw [zu_ne (by omega), zsp_row (by omega) _, zu_ne (by omega), zu_ne (by omega)]
                exact z_vret C0 Wd hret hlk ⟨hRC, rfl⟩ dX12_readCommand_360
            · skip
              refine z_aload_n C0 hl 3 rfl dX12_readCommand_181 ?_
              refine zg_9_17 C0 Wd zN398 zK398 zk_1629 dX12_readCommand_182 ?_
              refine z_iload_n C0 hl 0 rfl dX12_readCommand_185 ?_
              refine z_bipush C0 dX12_readCommand_186 (by decide) ?_
              refine z_iast C0 Wd zN407 zK407 zL407 (by omega) (by omega) (by decide) (zR_mk (by decide) (by decide)) dX12_readCommand_188 (fun H locs Wd => ?_)
              have hPs190 : zPS T n q0 (zu (zu zM0 398 18 ((zM0 398 18) + 1)) 407 (4 * (zM0 398 18)) 115) := zPS_zu hPs12 (by decide) (by omega)
              refine z_aload_n C0 hl 3 rfl dX12_readCommand_189 ?_
              refine zg_9_17 C0 Wd zN398 zK398 zk_1629 dX12_readCommand_190 ?_
              refine z_iload_n C0 hl 0 rfl dX12_readCommand_193 ?_
              refine z_iconst C0 dX12_readCommand_194 ?_
              refine z_iadd C0 dX12_readCommand_195 ?_
              refine z_aload_n C0 hl 3 rfl dX12_readCommand_196 ?_
              refine z_ldcr C0 (zc_r C0 (q := ("DrumWarrenModel", 240, "say ", 45)) (List.mem_of_getElem? (i := 5) rfl)) dX12_readCommand_197 ?_
              refine z_invVi (As := [.ref (g.2.2.2 45)]) (rest := [.int (zI ((4 * (zM0 398 18)) + 1)), .ref (ad 407)]) C0 Wd (ct_X12_readDigit l g ad (zu (zu zM0 398 18 ((zM0 398 18) + 1)) 407 (4 * (zM0 398 18)) 115) zF0 T n q0 (45, 85, [115, 97, 121, 32]) (List.mem_of_getElem? (i := 13) rfl) ([115, 97, 121, 32]) ztl_45 hPs190 hT (by decide +kernel)) kv_X12_readDigit zN398 (zE_9 zK398) rfl zk_2021 rfl hl.1 rfl (Nat.le_of_ble_eq_true rfl) (by decide) (by decide) dX12_readCommand_199 (fun r191 zMr191 zFr191 H locs hrr191 hp Wd => ?_)
              obtain ⟨rfl, rfl, rfl⟩ := hp
              have hPs193 : zPS T n (zst T n 35 (zfw T n [115, 97, 121, 32] q0)) (zsp (zu (zu zM0 398 18 ((zM0 398 18) + 1)) 407 (4 * (zM0 398 18)) 115) (zst T n 35 (zfw T n [115, 97, 121, 32] q0))) := zPS_sp hPs190 (zst_in (zfw_in [115, 97, 121, 32] hPs190.2.2.2.2.2))
              refine z_iast C0 Wd zN407 zK407 zL407 (by omega) (by omega) (by decide) hrr191 dX12_readCommand_202 (fun H locs Wd => ?_)
              have hPs194 : zPS T n (zst T n 35 (zfw T n [115, 97, 121, 32] q0)) (zu (zsp (zu (zu zM0 398 18 ((zM0 398 18) + 1)) 407 (4 * (zM0 398 18)) 115) (zst T n 35 (zfw T n [115, 97, 121, 32] q0))) 407 ((4 * (zM0 398 18)) + 1) (if 0 ≤ zst T n 35 (zfw T n [115, 97, 121, 32] q0) then znv T n 35 (zfw T n [115, 97, 121, 32] q0) else 0)) := zPS_zu hPs193 (by decide) (by omega)
              refine z_aload_n C0 hl 3 rfl dX12_readCommand_203 ?_
              refine zg_9_17 C0 Wd zN398 zK398 zk_1629 dX12_readCommand_204 ?_
              refine z_iload_n C0 hl 0 rfl dX12_readCommand_207 ?_
              refine z_iconst C0 dX12_readCommand_208 ?_
              refine z_iadd C0 dX12_readCommand_209 ?_
              refine z_aload_n C0 hl 3 rfl dX12_readCommand_210 ?_
              refine z_ldcr C0 (zc_r C0 (q := ("DrumWarrenModel", 242, ">", 46)) (List.mem_of_getElem? (i := 6) rfl)) dX12_readCommand_211 ?_
              refine z_invVi (As := [.ref (g.2.2.2 46)]) (rest := [.int (zI ((4 * (zM0 398 18)) + 2)), .ref (ad 407)]) C0 Wd (ct_X12_readDigit l g ad (zu (zsp (zu (zu zM0 398 18 ((zM0 398 18) + 1)) 407 (4 * (zM0 398 18)) 115) (zst T n 35 (zfw T n [115, 97, 121, 32] q0))) 407 ((4 * (zM0 398 18)) + 1) (if 0 ≤ zst T n 35 (zfw T n [115, 97, 121, 32] q0) then znv T n 35 (zfw T n [115, 97, 121, 32] q0) else 0)) zF0 T n (zst T n 35 (zfw T n [115, 97, 121, 32] q0)) (46, 86, [62]) (List.mem_of_getElem? (i := 14) rfl) ([62]) ztl_46 hPs194 hT (by decide +kernel)) kv_X12_readDigit zN398 (zE_9 zK398) rfl zk_2021 rfl hl.1 rfl (Nat.le_of_ble_eq_true rfl) (by decide) (by decide) dX12_readCommand_213 (fun r195 zMr195 zFr195 H locs hrr195 hp Wd => ?_)
              obtain ⟨rfl, rfl, rfl⟩ := hp
              have hPs197 : zPS T n (zst T n 35 (zfw T n [62] (zst T n 35 (zfw T n [115, 97, 121, 32] q0)))) (zsp (zu (zsp (zu (zu zM0 398 18 ((zM0 398 18) + 1)) 407 (4 * (zM0 398 18)) 115) (zst T n 35 (zfw T n [115, 97, 121, 32] q0))) 407 ((4 * (zM0 398 18)) + 1) (if 0 ≤ zst T n 35 (zfw T n [115, 97, 121, 32] q0) then znv T n 35 (zfw T n [115, 97, 121, 32] q0) else 0)) (zst T n 35 (zfw T n [62] (zst T n 35 (zfw T n [115, 97, 121, 32] q0))))) := zPS_sp hPs194 (zst_in (zfw_in [62] hPs194.2.2.2.2.2))
              refine z_iast C0 Wd zN407 zK407 zL407 (by omega) (by omega) (by decide) hrr195 dX12_readCommand_216 (fun H locs Wd => ?_)
              have hPs198 : zPS T n (zst T n 35 (zfw T n [62] (zst T n 35 (zfw T n [115, 97, 121, 32] q0)))) (zu (zsp (zu (zsp (zu (zu zM0 398 18 ((zM0 398 18) + 1)) 407 (4 * (zM0 398 18)) 115) (zst T n 35 (zfw T n [115, 97, 121, 32] q0))) 407 ((4 * (zM0 398 18)) + 1) (if 0 ≤ zst T n 35 (zfw T n [115, 97, 121, 32] q0) then znv T n 35 (zfw T n [115, 97, 121, 32] q0) else 0)) (zst T n 35 (zfw T n [62] (zst T n 35 (zfw T n [115, 97, 121, 32] q0))))) 407 ((4 * (zM0 398 18)) + 2) (if 0 ≤ zst T n 35 (zfw T n [62] (zst T n 35 (zfw T n [115, 97, 121, 32] q0))) then znv T n 35 (zfw T n [62] (zst T n 35 (zfw T n [115, 97, 121, 32] q0))) else 0)) := zPS_zu hPs197 (by decide) (by omega)
              refine z_aload_n C0 hl 3 rfl dX12_readCommand_217 ?_
              refine z_ldcr C0 (zc_r C0 (q := ("DrumWarrenModel", 244, "=", 47)) (List.mem_of_getElem? (i := 7) rfl)) dX12_readCommand_218 ?_
              refine z_invVv (As := [.ref (g.2.2.2 47)]) (rest := []) C0 Wd (ct_X12_skip l g ad (zu (zsp (zu (zsp (zu (zu zM0 398 18 ((zM0 398 18) + 1)) 407 (4 * (zM0 398 18)) 115) (zst T n 35 (zfw T n [115, 97, 121, 32] q0))) 407 ((4 * (zM0 398 18)) + 1) (if 0 ≤ zst T n 35 (zfw T n [115, 97, 121, 32] q0) then znv T n 35 (zfw T n [115, 97, 121, 32] q0) else 0)) (zst T n 35 (zfw T n [62] (zst T n 35 (zfw T n [115, 97, 121, 32] q0))))) 407 ((4 * (zM0 398 18)) + 2) (if 0 ≤ zst T n 35 (zfw T n [62] (zst T n 35 (zfw T n [115, 97, 121, 32] q0))) then znv T n 35 (zfw T n [62] (zst T n 35 (zfw T n [115, 97, 121, 32] q0))) else 0)) zF0 T n (zst T n 35 (zfw T n [62] (zst T n 35 (zfw T n [115, 97, 121, 32] q0)))) (47, 87, [61]) (List.mem_of_getElem? (i := 15) rfl) ([61]) ztl_47 hPs198 hT (by decide +kernel)) kv_X12_skip zN398 (zE_9 zK398) rfl zk_2025 rfl hl.1 rfl (Nat.le_of_ble_eq_true rfl) (by decide) (by decide) dX12_readCommand_220 (fun zMr199 zFr199 H locs hp Wd => ?_)
              obtain ⟨rfl, rfl⟩ := hp
              have hPs201 : zPS T n (zfw T n [61] (zst T n 35 (zfw T n [62] (zst T n 35 (zfw T n [115, 97, 121, 32] q0))))) (zsp (zu (zsp (zu (zsp (zu (zu zM0 398 18 ((zM0 398 18) + 1)) 407 (4 * (zM0 398 18)) 115) (zst T n 35 (zfw T n [115, 97, 121, 32] q0))) 407 ((4 * (zM0 398 18)) + 1) (if 0 ≤ zst T n 35 (zfw T n [115, 97, 121, 32] q0) then znv T n 35 (zfw T n [115, 97, 121, 32] q0) else 0)) (zst T n 35 (zfw T n [62] (zst T n 35 (zfw T n [115, 97, 121, 32] q0))))) 407 ((4 * (zM0 398 18)) + 2) (if 0 ≤ zst T n 35 (zfw T n [62] (zst T n 35 (zfw T n [115, 97, 121, 32] q0))) then znv T n 35 (zfw T n [62] (zst T n 35 (zfw T n [115, 97, 121, 32] q0))) else 0)) (zfw T n [61] (zst T n 35 (zfw T n [62] (zst T n 35 (zfw T n [115, 97, 121, 32] q0)))))) := zPS_sp hPs198 (zfw_in [61] hPs198.2.2.2.2.2)
              refine z_aload_n C0 hl 3 rfl dX12_readCommand_223 ?_
              refine zg_9_17 C0 Wd zN398 zK398 zk_1629 dX12_readCommand_224 ?_
              refine z_iload_n C0 hl 0 rfl dX12_readCommand_227 ?_
              refine z_iconst C0 dX12_readCommand_228 ?_
              refine z_iadd C0 dX12_readCommand_229 ?_
              refine z_aload_n C0 hl 3 rfl dX12_readCommand_230 ?_
              refine z_iconst C0 dX12_readCommand_231 ?_
              refine z_invVi (As := [.int (zI 2)]) (rest := [.int (zI ((4 * (zM0 398 18)) + 3)), .ref (ad 407)]) C0 Wd (ct_X12_readNumber_2 l g ad (zsp (zu (zsp (zu (zsp (zu (zu zM0 398 18 ((zM0 398 18) + 1)) 407 (4 * (zM0 398 18)) 115) (zst T n 35 (zfw T n [115, 97, 121, 32] q0))) 407 ((4 * (zM0 398 18)) + 1) (if 0 ≤ zst T n 35 (zfw T n [115, 97, 121, 32] q0) then znv T n 35 (zfw T n [115, 97, 121, 32] q0) else 0)) (zst T n 35 (zfw T n [62] (zst T n 35 (zfw T n [115, 97, 121, 32] q0))))) 407 ((4 * (zM0 398 18)) + 2) (if 0 ≤ zst T n 35 (zfw T n [62] (zst T n 35 (zfw T n [115, 97, 121, 32] q0))) then znv T n 35 (zfw T n [62] (zst T n 35 (zfw T n [115, 97, 121, 32] q0))) else 0)) (zfw T n [61] (zst T n 35 (zfw T n [62] (zst T n 35 (zfw T n [115, 97, 121, 32] q0)))))) zF0 T n (zfw T n [61] (zst T n 35 (zfw T n [62] (zst T n 35 (zfw T n [115, 97, 121, 32] q0))))) 2 (zR_mk (by decide) (by decide)) hPs201 hT (by omega)) kv_X12_readNumber zN398 (zE_9 zK398) rfl zk_2031 rfl hl.1 rfl (Nat.le_of_ble_eq_true rfl) (by decide) (by decide) dX12_readCommand_232 (fun r202 zMr202 zFr202 H locs hrr202 hp Wd => ?_)
              obtain ⟨rfl, rfl, rfl⟩ := hp
              have hPs204 : zPS T n (zst T n 37 (zfw T n [61] (zst T n 35 (zfw T n [62] (zst T n 35 (zfw T n [115, 97, 121, 32] q0)))))) (zsp (zsp (zu (zsp (zu (zsp (zu (zu zM0 398 18 ((zM0 398 18) + 1)) 407 (4 * (zM0 398 18)) 115) (zst T n 35 (zfw T n [115, 97, 121, 32] q0))) 407 ((4 * (zM0 398 18)) + 1) (if 0 ≤ zst T n 35 (zfw T n [115, 97, 121, 32] q0) then znv T n 35 (zfw T n [115, 97, 121, 32] q0) else 0)) (zst T n 35 (zfw T n [62] (zst T n 35 (zfw T n [115, 97, 121, 32] q0))))) 407 ((4 * (zM0 398 18)) + 2) (if 0 ≤ zst T n 35 (zfw T n [62] (zst T n 35 (zfw T n [115, 97, 121, 32] q0))) then znv T n 35 (zfw T n [62] (zst T n 35 (zfw T n [115, 97, 121, 32] q0))) else 0)) (zfw T n [61] (zst T n 35 (zfw T n [62] (zst T n 35 (zfw T n [115, 97, 121, 32] q0)))))) (zst T n 37 (zfw T n [61] (zst T n 35 (zfw T n [62] (zst T n 35 (zfw T n [115, 97, 121, 32] q0))))))) := zPS_sp hPs201 (zst_in hPs201.2.2.2.2.2)
              refine z_iast C0 Wd zN407 zK407 zL407 (by omega) (by omega) (by decide) hrr202 dX12_readCommand_235 (fun H locs Wd => ?_)
              have hPs205 : zPS T n (zst T n 37 (zfw T n [61] (zst T n 35 (zfw T n [62] (zst T n 35 (zfw T n [115, 97, 121, 32] q0)))))) (zu (zsp (zsp (zu (zsp (zu (zsp (zu (zu zM0 398 18 ((zM0 398 18) + 1)) 407 (4 * (zM0 398 18)) 115) (zst T n 35 (zfw T n [115, 97, 121, 32] q0))) 407 ((4 * (zM0 398 18)) + 1) (if 0 ≤ zst T n 35 (zfw T n [115, 97, 121, 32] q0) then znv T n 35 (zfw T n [115, 97, 121, 32] q0) else 0)) (zst T n 35 (zfw T n [62] (zst T n 35 (zfw T n [115, 97, 121, 32] q0))))) 407 ((4 * (zM0 398 18)) + 2) (if 0 ≤ zst T n 35 (zfw T n [62] (zst T n 35 (zfw T n [115, 97, 121, 32] q0))) then znv T n 35 (zfw T n [62] (zst T n 35 (zfw T n [115, 97, 121, 32] q0))) else 0)) (zfw T n [61] (zst T n 35 (zfw T n [62] (zst T n 35 (zfw T n [115, 97, 121, 32] q0)))))) (zst T n 37 (zfw T n [61] (zst T n 35 (zfw T n [62] (zst T n 35 (zfw T n [115, 97, 121, 32] q0))))))) 407 ((4 * (zM0 398 18)) + 3) (if 0 ≤ zst T n 37 (zfw T n [61] (zst T n 35 (zfw T n [62] (zst T n 35 (zfw T n [115, 97, 121, 32] q0))))) then znv T n 37 (zfw T n [61] (zst T n 35 (zfw T n [62] (zst T n 35 (zfw T n [115, 97, 121, 32] q0))))) else 0)) := zPS_zu hPs204 (by decide) (by omega)
              refine z_goto C0 (tgt := 360) dX12_readCommand_236 (by decide) ?_
              have hkn : zkn T n q0 = 3 := by unfold zkn; rw [if_neg (by omega), if_pos (by omega), if_neg (by omega)]
              have hQ : zEn T n q0 = (zst T n 37 (zfw T n [61] (zst T n 35 (zfw T n [62] (zst T n 35 (zfw T n [115, 97, 121, 32] q0)))))) := by unfold zEn; rw [hkn]; rfl
              have hRC : zRC T n q0 (zM0 398 18) zM0 (zu (zsp (zsp (zu (zsp (zu (zsp (zu (zu zM0 398 18 ((zM0 398 18) + 1)) 407 (4 * (zM0 398 18)) 115) (zst T n 35 (zfw T n [115, 97, 121, 32] q0))) 407 ((4 * (zM0 398 18)) + 1) (if 0 ≤ zst T n 35 (zfw T n [115, 97, 121, 32] q0) then znv T n 35 (zfw T n [115, 97, 121, 32] q0) else 0)) (zst T n 35 (zfw T n [62] (zst T n 35 (zfw T n [115, 97, 121, 32] q0))))) 407 ((4 * (zM0 398 18)) + 2) (if 0 ≤ zst T n 35 (zfw T n [62] (zst T n 35 (zfw T n [115, 97, 121, 32] q0))) then znv T n 35 (zfw T n [62] (zst T n 35 (zfw T n [115, 97, 121, 32] q0))) else 0)) (zfw T n [61] (zst T n 35 (zfw T n [62] (zst T n 35 (zfw T n [115, 97, 121, 32] q0)))))) (zst T n 37 (zfw T n [61] (zst T n 35 (zfw T n [62] (zst T n 35 (zfw T n [115, 97, 121, 32] q0))))))) 407 ((4 * (zM0 398 18)) + 3) (if 0 ≤ zst T n 37 (zfw T n [61] (zst T n 35 (zfw T n [62] (zst T n 35 (zfw T n [115, 97, 121, 32] q0))))) then znv T n 37 (zfw T n [61] (zst T n 35 (zfw T n [62] (zst T n 35 (zfw T n [115, 97, 121, 32] q0))))) else 0)) := by
                refine ⟨by rw [hQ]; exact hPs205, ((zu_ne (by omega)).trans ((zsp_398 (by omega) (by omega)).trans ((zsp_398 (by omega) (by omega)).trans ((zu_ne (by omega)).trans ((zsp_398 (by omega) (by omega)).trans ((zu_ne (by omega)).trans ((zsp_398 (by omega) (by omega)).trans ((zu_ne (by omega)).trans (zu_same _ _ _ _))))))))), by rw [hkn]; exact ((zu_ne (by omega)).trans ((zsp_row (by omega) _).trans ((zsp_row (by omega) _).trans ((zu_ne (by omega)).trans ((zsp_row (by omega) _).trans ((zu_ne (by omega)).trans ((zsp_row (by omega) _).trans (zu_same _ _ _ _)))))))), fun hq j j0 j1 => ?_, fun i h1 h2 => ?_, fun j h1 h2 h3 => ?_, fun j h => ?_⟩
                · rw [hQ] at hq; rw [hkn] at j1; unfold zka; rw [hkn]
                  have j1 : j < 3 := j1
                  have hj : j = 0 ∨ j = 1 ∨ j = 2 := by omega
                  rcases hj with rfl | rfl | rfl
                  · exact (((zu_ne (by omega)).trans ((zsp_row (by omega) _).trans ((zsp_row (by omega) _).trans ((zu_ne (by omega)).trans ((zsp_row (by omega) _).trans (zu_at (by omega) (by omega)))))))).trans (if_pos (zfw_ge (zst_ge (zfw_ge (zst_ge hq)))))
                  · exact (((zu_ne (by omega)).trans ((zsp_row (by omega) _).trans ((zsp_row (by omega) _).trans (zu_at (by omega) (by omega)))))).trans (if_pos (zfw_ge (zst_ge hq)))
                  · exact ((zu_at (by omega) (by omega))).trans (if_pos hq)
                · rw [zu_row (by omega), zsp_rw (by omega), zsp_rw (by omega), zu_row (by omega), zsp_rw (by omega), zu_row (by omega), zsp_rw (by omega), zu_row (by omega), zu_row (by omega)]
                · rw [zu_ne (by omega), zsp_398 (by omega) (by omega), zsp_398 (by omega) (by omega), zu_ne (by omega), zsp_398 (by omega) (by omega), zu_ne (by omega), zsp_398 (by omega) (by omega), zu_ne (by omega), zu_ne (by omega)]
                · rw [zu_ne (by omega), zsp_row (by omega) _, zsp_row (by omega) _, zu_ne (by omega), zsp_row (by omega) _, zu_ne (by omega), zsp_row (by omega) _, zu_ne (by omega), zu_ne (by omega)]
              exact z_vret C0 Wd hret hlk ⟨hRC, rfl⟩ dX12_readCommand_360
          · skip
            refine z_aload_n C0 hl 3 rfl dX12_readCommand_150 ?_
            refine zg_9_17 C0 Wd zN398 zK398 zk_1629 dX12_readCommand_151 ?_
            refine z_iload_n C0 hl 0 rfl dX12_readCommand_154 ?_
            refine z_bipush C0 dX12_readCommand_155 (by decide) ?_
            refine z_iast C0 Wd zN407 zK407 zL407 (by omega) (by omega) (by decide) (zR_mk (by decide) (by decide)) dX12_readCommand_157 (fun H locs Wd => ?_)
            have hPs206 : zPS T n q0 (zu (zu zM0 398 18 ((zM0 398 18) + 1)) 407 (4 * (zM0 398 18)) 122) := zPS_zu hPs12 (by decide) (by omega)
            refine z_aload_n C0 hl 3 rfl dX12_readCommand_158 ?_
            refine zg_9_17 C0 Wd zN398 zK398 zk_1629 dX12_readCommand_159 ?_
            refine z_iload_n C0 hl 0 rfl dX12_readCommand_162 ?_
            refine z_iconst C0 dX12_readCommand_163 ?_
            refine z_iadd C0 dX12_readCommand_164 ?_
            refine z_aload_n C0 hl 3 rfl dX12_readCommand_165 ?_
            refine z_ldcr C0 (zc_r C0 (q := ("DrumWarrenModel", 238, "sleep ", 44)) (List.mem_of_getElem? (i := 4) rfl)) dX12_readCommand_166 ?_
            refine z_invVi (As := [.ref (g.2.2.2 44)]) (rest := [.int (zI ((4 * (zM0 398 18)) + 1)), .ref (ad 407)]) C0 Wd (ct_X12_readDigit l g ad (zu (zu zM0 398 18 ((zM0 398 18) + 1)) 407 (4 * (zM0 398 18)) 122) zF0 T n q0 (44, 84, [115, 108, 101, 101, 112, 32]) (List.mem_of_getElem? (i := 12) rfl) ([115, 108, 101, 101, 112, 32]) ztl_44 hPs206 hT (by decide +kernel)) kv_X12_readDigit zN398 (zE_9 zK398) rfl zk_2021 rfl hl.1 rfl (Nat.le_of_ble_eq_true rfl) (by decide) (by decide) dX12_readCommand_168 (fun r207 zMr207 zFr207 H locs hrr207 hp Wd => ?_)
            obtain ⟨rfl, rfl, rfl⟩ := hp
            have hPs209 : zPS T n (zst T n 35 (zfw T n [115, 108, 101, 101, 112, 32] q0)) (zsp (zu (zu zM0 398 18 ((zM0 398 18) + 1)) 407 (4 * (zM0 398 18)) 122) (zst T n 35 (zfw T n [115, 108, 101, 101, 112, 32] q0))) := zPS_sp hPs206 (zst_in (zfw_in [115, 108, 101, 101, 112, 32] hPs206.2.2.2.2.2))
            refine z_iast C0 Wd zN407 zK407 zL407 (by omega) (by omega) (by decide) hrr207 dX12_readCommand_171 (fun H locs Wd => ?_)
            have hPs210 : zPS T n (zst T n 35 (zfw T n [115, 108, 101, 101, 112, 32] q0)) (zu (zsp (zu (zu zM0 398 18 ((zM0 398 18) + 1)) 407 (4 * (zM0 398 18)) 122) (zst T n 35 (zfw T n [115, 108, 101, 101, 112, 32] q0))) 407 ((4 * (zM0 398 18)) + 1) (if 0 ≤ zst T n 35 (zfw T n [115, 108, 101, 101, 112, 32] q0) then znv T n 35 (zfw T n [115, 108, 101, 101, 112, 32] q0) else 0)) := zPS_zu hPs209 (by decide) (by omega)
            refine z_goto C0 (tgt := 360) dX12_readCommand_172 (by decide) ?_
            have hkn : zkn T n q0 = 5 := by unfold zkn; rw [if_neg (by omega), if_pos (by omega), if_pos (by omega)]
            have hQ : zEn T n q0 = (zst T n 35 (zfw T n [115, 108, 101, 101, 112, 32] q0)) := by unfold zEn; rw [hkn]; rfl
            have hRC : zRC T n q0 (zM0 398 18) zM0 (zu (zsp (zu (zu zM0 398 18 ((zM0 398 18) + 1)) 407 (4 * (zM0 398 18)) 122) (zst T n 35 (zfw T n [115, 108, 101, 101, 112, 32] q0))) 407 ((4 * (zM0 398 18)) + 1) (if 0 ≤ zst T n 35 (zfw T n [115, 108, 101, 101, 112, 32] q0) then znv T n 35 (zfw T n [115, 108, 101, 101, 112, 32] q0) else 0)) := by
              refine ⟨by rw [hQ]; exact hPs210, ((zu_ne (by omega)).trans ((zsp_398 (by omega) (by omega)).trans ((zu_ne (by omega)).trans (zu_same _ _ _ _)))), by rw [hkn]; exact ((zu_ne (by omega)).trans ((zsp_row (by omega) _).trans (zu_same _ _ _ _))), fun hq j j0 j1 => ?_, fun i h1 h2 => ?_, fun j h1 h2 h3 => ?_, fun j h => ?_⟩
              · rw [hQ] at hq; rw [hkn] at j1; unfold zka; rw [hkn]
                have j1 : j < 1 := j1
                have hj : j = 0 := by omega
                rcases hj with rfl
                · exact ((zu_at (by omega) (by omega))).trans (if_pos hq)
              · rw [zu_row (by omega), zsp_rw (by omega), zu_row (by omega), zu_row (by omega)]
              · rw [zu_ne (by omega), zsp_398 (by omega) (by omega), zu_ne (by omega), zu_ne (by omega)]
              · rw [zu_ne (by omega), zsp_row (by omega) _, zu_ne (by omega), zu_ne (by omega)]
            exact z_vret C0 Wd hret hlk ⟨hRC, rfl⟩ dX12_readCommand_360
      · skip
        refine z_aload_n C0 hl 3 rfl dX12_readCommand_108 ?_
        refine zg_9_17 C0 Wd zN398 zK398 zk_1629 dX12_readCommand_109 ?_
        refine z_iload_n C0 hl 0 rfl dX12_readCommand_112 ?_
        refine z_bipush C0 dX12_readCommand_113 (by decide) ?_
        refine z_iast C0 Wd zN407 zK407 zL407 (by omega) (by omega) (by decide) (zR_mk (by decide) (by decide)) dX12_readCommand_115 (fun H locs Wd => ?_)
        have hPs211 : zPS T n q0 (zu (zu zM0 398 18 ((zM0 398 18) + 1)) 407 (4 * (zM0 398 18)) 116) := zPS_zu hPs12 (by decide) (by omega)
        refine z_aload_n C0 hl 3 rfl dX12_readCommand_116 ?_
        refine z_ldcr C0 (zc_r C0 (q := ("DrumWarrenModel", 236, "tick ", 43)) (List.mem_of_getElem? (i := 3) rfl)) dX12_readCommand_117 ?_
        refine z_invVv (As := [.ref (g.2.2.2 43)]) (rest := []) C0 Wd (ct_X12_skip l g ad (zu (zu zM0 398 18 ((zM0 398 18) + 1)) 407 (4 * (zM0 398 18)) 116) zF0 T n q0 (43, 83, [116, 105, 99, 107, 32]) (List.mem_of_getElem? (i := 11) rfl) ([116, 105, 99, 107, 32]) ztl_43 hPs211 hT (by decide +kernel)) kv_X12_skip zN398 (zE_9 zK398) rfl zk_2025 rfl hl.1 rfl (Nat.le_of_ble_eq_true rfl) (by decide) (by decide) dX12_readCommand_119 (fun zMr212 zFr212 H locs hp Wd => ?_)
        obtain ⟨rfl, rfl⟩ := hp
        have hPs214 : zPS T n (zfw T n [116, 105, 99, 107, 32] q0) (zsp (zu (zu zM0 398 18 ((zM0 398 18) + 1)) 407 (4 * (zM0 398 18)) 116) (zfw T n [116, 105, 99, 107, 32] q0)) := zPS_sp hPs211 (zfw_in [116, 105, 99, 107, 32] hPs211.2.2.2.2.2)
        refine z_aload_n C0 hl 3 rfl dX12_readCommand_122 ?_
        refine zg_9_17 C0 Wd zN398 zK398 zk_1629 dX12_readCommand_123 ?_
        refine z_iload_n C0 hl 0 rfl dX12_readCommand_126 ?_
        refine z_iconst C0 dX12_readCommand_127 ?_
        refine z_iadd C0 dX12_readCommand_128 ?_
        refine z_aload_n C0 hl 3 rfl dX12_readCommand_129 ?_
        refine z_iconst C0 dX12_readCommand_130 ?_
        refine z_invVi (As := [.int (zI 2)]) (rest := [.int (zI ((4 * (zM0 398 18)) + 1)), .ref (ad 407)]) C0 Wd (ct_X12_readNumber_2 l g ad (zsp (zu (zu zM0 398 18 ((zM0 398 18) + 1)) 407 (4 * (zM0 398 18)) 116) (zfw T n [116, 105, 99, 107, 32] q0)) zF0 T n (zfw T n [116, 105, 99, 107, 32] q0) 2 (zR_mk (by decide) (by decide)) hPs214 hT (by omega)) kv_X12_readNumber zN398 (zE_9 zK398) rfl zk_2031 rfl hl.1 rfl (Nat.le_of_ble_eq_true rfl) (by decide) (by decide) dX12_readCommand_131 (fun r215 zMr215 zFr215 H locs hrr215 hp Wd => ?_)
        obtain ⟨rfl, rfl, rfl⟩ := hp
        have hPs217 : zPS T n (zst T n 37 (zfw T n [116, 105, 99, 107, 32] q0)) (zsp (zsp (zu (zu zM0 398 18 ((zM0 398 18) + 1)) 407 (4 * (zM0 398 18)) 116) (zfw T n [116, 105, 99, 107, 32] q0)) (zst T n 37 (zfw T n [116, 105, 99, 107, 32] q0))) := zPS_sp hPs214 (zst_in hPs214.2.2.2.2.2)
        refine z_iast C0 Wd zN407 zK407 zL407 (by omega) (by omega) (by decide) hrr215 dX12_readCommand_134 (fun H locs Wd => ?_)
        have hPs218 : zPS T n (zst T n 37 (zfw T n [116, 105, 99, 107, 32] q0)) (zu (zsp (zsp (zu (zu zM0 398 18 ((zM0 398 18) + 1)) 407 (4 * (zM0 398 18)) 116) (zfw T n [116, 105, 99, 107, 32] q0)) (zst T n 37 (zfw T n [116, 105, 99, 107, 32] q0))) 407 ((4 * (zM0 398 18)) + 1) (if 0 ≤ zst T n 37 (zfw T n [116, 105, 99, 107, 32] q0) then znv T n 37 (zfw T n [116, 105, 99, 107, 32] q0) else 0)) := zPS_zu hPs217 (by decide) (by omega)
        refine z_goto C0 (tgt := 360) dX12_readCommand_135 (by decide) ?_
        have hkn : zkn T n q0 = 7 := by unfold zkn; rw [if_pos (by omega), if_neg (by omega)]
        have hQ : zEn T n q0 = (zst T n 37 (zfw T n [116, 105, 99, 107, 32] q0)) := by unfold zEn; rw [hkn]; rfl
        have hRC : zRC T n q0 (zM0 398 18) zM0 (zu (zsp (zsp (zu (zu zM0 398 18 ((zM0 398 18) + 1)) 407 (4 * (zM0 398 18)) 116) (zfw T n [116, 105, 99, 107, 32] q0)) (zst T n 37 (zfw T n [116, 105, 99, 107, 32] q0))) 407 ((4 * (zM0 398 18)) + 1) (if 0 ≤ zst T n 37 (zfw T n [116, 105, 99, 107, 32] q0) then znv T n 37 (zfw T n [116, 105, 99, 107, 32] q0) else 0)) := by
          refine ⟨by rw [hQ]; exact hPs218, ((zu_ne (by omega)).trans ((zsp_398 (by omega) (by omega)).trans ((zsp_398 (by omega) (by omega)).trans ((zu_ne (by omega)).trans (zu_same _ _ _ _))))), by rw [hkn]; exact ((zu_ne (by omega)).trans ((zsp_row (by omega) _).trans ((zsp_row (by omega) _).trans (zu_same _ _ _ _)))), fun hq j j0 j1 => ?_, fun i h1 h2 => ?_, fun j h1 h2 h3 => ?_, fun j h => ?_⟩
          · rw [hQ] at hq; rw [hkn] at j1; unfold zka; rw [hkn]
            have j1 : j < 1 := j1
            have hj : j = 0 := by omega
            rcases hj with rfl
            · exact ((zu_at (by omega) (by omega))).trans (if_pos hq)
          · rw [zu_row (by omega), zsp_rw (by omega), zsp_rw (by omega), zu_row (by omega), zu_row (by omega)]
          · rw [zu_ne (by omega), zsp_398 (by omega) (by omega), zsp_398 (by omega) (by omega), zu_ne (by omega), zu_ne (by omega)]
          · rw [zu_ne (by omega), zsp_row (by omega) _, zsp_row (by omega) _, zu_ne (by omega), zu_ne (by omega)]
        exact z_vret C0 Wd hret hlk ⟨hRC, rfl⟩ dX12_readCommand_360
    · skip
      refine z_aload_n C0 hl 3 rfl dX12_readCommand_49 ?_
      refine zg_9_17 C0 Wd zN398 zK398 zk_1629 dX12_readCommand_50 ?_
      refine z_iload_n C0 hl 0 rfl dX12_readCommand_53 ?_
      refine z_bipush C0 dX12_readCommand_54 (by decide) ?_
      refine z_iast C0 Wd zN407 zK407 zL407 (by omega) (by omega) (by decide) (zR_mk (by decide) (by decide)) dX12_readCommand_56 (fun H locs Wd => ?_)
      have hPs219 : zPS T n q0 (zu (zu zM0 398 18 ((zM0 398 18) + 1)) 407 (4 * (zM0 398 18)) 117) := zPS_zu hPs12 (by decide) (by omega)
      refine z_aload_n C0 hl 3 rfl dX12_readCommand_57 ?_
      refine zg_9_17 C0 Wd zN398 zK398 zk_1629 dX12_readCommand_58 ?_
      refine z_iload_n C0 hl 0 rfl dX12_readCommand_61 ?_
      refine z_iconst C0 dX12_readCommand_62 ?_
      refine z_iadd C0 dX12_readCommand_63 ?_
      refine z_aload_n C0 hl 3 rfl dX12_readCommand_64 ?_
      refine z_ldcr C0 (zc_r C0 (q := ("DrumWarrenModel", 226, "tunnel ", 40)) (List.mem_of_getElem? (i := 0) rfl)) dX12_readCommand_65 ?_
      refine z_invVi (As := [.ref (g.2.2.2 40)]) (rest := [.int (zI ((4 * (zM0 398 18)) + 1)), .ref (ad 407)]) C0 Wd (ct_X12_readDigit l g ad (zu (zu zM0 398 18 ((zM0 398 18) + 1)) 407 (4 * (zM0 398 18)) 117) zF0 T n q0 (40, 80, [116, 117, 110, 110, 101, 108, 32]) (List.mem_of_getElem? (i := 8) rfl) ([116, 117, 110, 110, 101, 108, 32]) ztl_40 hPs219 hT (by decide +kernel)) kv_X12_readDigit zN398 (zE_9 zK398) rfl zk_2021 rfl hl.1 rfl (Nat.le_of_ble_eq_true rfl) (by decide) (by decide) dX12_readCommand_67 (fun r220 zMr220 zFr220 H locs hrr220 hp Wd => ?_)
      obtain ⟨rfl, rfl, rfl⟩ := hp
      have hPs222 : zPS T n (zst T n 35 (zfw T n [116, 117, 110, 110, 101, 108, 32] q0)) (zsp (zu (zu zM0 398 18 ((zM0 398 18) + 1)) 407 (4 * (zM0 398 18)) 117) (zst T n 35 (zfw T n [116, 117, 110, 110, 101, 108, 32] q0))) := zPS_sp hPs219 (zst_in (zfw_in [116, 117, 110, 110, 101, 108, 32] hPs219.2.2.2.2.2))
      refine z_iast C0 Wd zN407 zK407 zL407 (by omega) (by omega) (by decide) hrr220 dX12_readCommand_70 (fun H locs Wd => ?_)
      have hPs223 : zPS T n (zst T n 35 (zfw T n [116, 117, 110, 110, 101, 108, 32] q0)) (zu (zsp (zu (zu zM0 398 18 ((zM0 398 18) + 1)) 407 (4 * (zM0 398 18)) 117) (zst T n 35 (zfw T n [116, 117, 110, 110, 101, 108, 32] q0))) 407 ((4 * (zM0 398 18)) + 1) (if 0 ≤ zst T n 35 (zfw T n [116, 117, 110, 110, 101, 108, 32] q0) then znv T n 35 (zfw T n [116, 117, 110, 110, 101, 108, 32] q0) else 0)) := zPS_zu hPs222 (by decide) (by omega)
      refine z_aload_n C0 hl 3 rfl dX12_readCommand_71 ?_
      refine zg_9_17 C0 Wd zN398 zK398 zk_1629 dX12_readCommand_72 ?_
      refine z_iload_n C0 hl 0 rfl dX12_readCommand_75 ?_
      refine z_iconst C0 dX12_readCommand_76 ?_
      refine z_iadd C0 dX12_readCommand_77 ?_
      refine z_aload_n C0 hl 3 rfl dX12_readCommand_78 ?_
      refine z_ldcr C0 (zc_r C0 (q := ("DrumWarrenModel", 232, "-", 41)) (List.mem_of_getElem? (i := 1) rfl)) dX12_readCommand_79 ?_
      refine z_invVi (As := [.ref (g.2.2.2 41)]) (rest := [.int (zI ((4 * (zM0 398 18)) + 2)), .ref (ad 407)]) C0 Wd (ct_X12_readDigit l g ad (zu (zsp (zu (zu zM0 398 18 ((zM0 398 18) + 1)) 407 (4 * (zM0 398 18)) 117) (zst T n 35 (zfw T n [116, 117, 110, 110, 101, 108, 32] q0))) 407 ((4 * (zM0 398 18)) + 1) (if 0 ≤ zst T n 35 (zfw T n [116, 117, 110, 110, 101, 108, 32] q0) then znv T n 35 (zfw T n [116, 117, 110, 110, 101, 108, 32] q0) else 0)) zF0 T n (zst T n 35 (zfw T n [116, 117, 110, 110, 101, 108, 32] q0)) (41, 81, [45]) (List.mem_of_getElem? (i := 9) rfl) ([45]) ztl_41 hPs223 hT (by decide +kernel)) kv_X12_readDigit zN398 (zE_9 zK398) rfl zk_2021 rfl hl.1 rfl (Nat.le_of_ble_eq_true rfl) (by decide) (by decide) dX12_readCommand_81 (fun r224 zMr224 zFr224 H locs hrr224 hp Wd => ?_)
      obtain ⟨rfl, rfl, rfl⟩ := hp
      have hPs226 : zPS T n (zst T n 35 (zfw T n [45] (zst T n 35 (zfw T n [116, 117, 110, 110, 101, 108, 32] q0)))) (zsp (zu (zsp (zu (zu zM0 398 18 ((zM0 398 18) + 1)) 407 (4 * (zM0 398 18)) 117) (zst T n 35 (zfw T n [116, 117, 110, 110, 101, 108, 32] q0))) 407 ((4 * (zM0 398 18)) + 1) (if 0 ≤ zst T n 35 (zfw T n [116, 117, 110, 110, 101, 108, 32] q0) then znv T n 35 (zfw T n [116, 117, 110, 110, 101, 108, 32] q0) else 0)) (zst T n 35 (zfw T n [45] (zst T n 35 (zfw T n [116, 117, 110, 110, 101, 108, 32] q0))))) := zPS_sp hPs223 (zst_in (zfw_in [45] hPs223.2.2.2.2.2))
      refine z_iast C0 Wd zN407 zK407 zL407 (by omega) (by omega) (by decide) hrr224 dX12_readCommand_84 (fun H locs Wd => ?_)
      have hPs227 : zPS T n (zst T n 35 (zfw T n [45] (zst T n 35 (zfw T n [116, 117, 110, 110, 101, 108, 32] q0)))) (zu (zsp (zu (zsp (zu (zu zM0 398 18 ((zM0 398 18) + 1)) 407 (4 * (zM0 398 18)) 117) (zst T n 35 (zfw T n [116, 117, 110, 110, 101, 108, 32] q0))) 407 ((4 * (zM0 398 18)) + 1) (if 0 ≤ zst T n 35 (zfw T n [116, 117, 110, 110, 101, 108, 32] q0) then znv T n 35 (zfw T n [116, 117, 110, 110, 101, 108, 32] q0) else 0)) (zst T n 35 (zfw T n [45] (zst T n 35 (zfw T n [116, 117, 110, 110, 101, 108, 32] q0))))) 407 ((4 * (zM0 398 18)) + 2) (if 0 ≤ zst T n 35 (zfw T n [45] (zst T n 35 (zfw T n [116, 117, 110, 110, 101, 108, 32] q0))) then znv T n 35 (zfw T n [45] (zst T n 35 (zfw T n [116, 117, 110, 110, 101, 108, 32] q0))) else 0)) := zPS_zu hPs226 (by decide) (by omega)
      refine z_aload_n C0 hl 3 rfl dX12_readCommand_85 ?_
      refine zg_9_17 C0 Wd zN398 zK398 zk_1629 dX12_readCommand_86 ?_
      refine z_iload_n C0 hl 0 rfl dX12_readCommand_89 ?_
      refine z_iconst C0 dX12_readCommand_90 ?_
      refine z_iadd C0 dX12_readCommand_91 ?_
      refine z_aload_n C0 hl 3 rfl dX12_readCommand_92 ?_
      refine z_ldcr C0 (zc_r C0 (q := ("DrumWarrenModel", 234, "*", 42)) (List.mem_of_getElem? (i := 2) rfl)) dX12_readCommand_93 ?_
      refine z_invVi (As := [.ref (g.2.2.2 42)]) (rest := [.int (zI ((4 * (zM0 398 18)) + 3)), .ref (ad 407)]) C0 Wd (ct_X12_readDigit l g ad (zu (zsp (zu (zsp (zu (zu zM0 398 18 ((zM0 398 18) + 1)) 407 (4 * (zM0 398 18)) 117) (zst T n 35 (zfw T n [116, 117, 110, 110, 101, 108, 32] q0))) 407 ((4 * (zM0 398 18)) + 1) (if 0 ≤ zst T n 35 (zfw T n [116, 117, 110, 110, 101, 108, 32] q0) then znv T n 35 (zfw T n [116, 117, 110, 110, 101, 108, 32] q0) else 0)) (zst T n 35 (zfw T n [45] (zst T n 35 (zfw T n [116, 117, 110, 110, 101, 108, 32] q0))))) 407 ((4 * (zM0 398 18)) + 2) (if 0 ≤ zst T n 35 (zfw T n [45] (zst T n 35 (zfw T n [116, 117, 110, 110, 101, 108, 32] q0))) then znv T n 35 (zfw T n [45] (zst T n 35 (zfw T n [116, 117, 110, 110, 101, 108, 32] q0))) else 0)) zF0 T n (zst T n 35 (zfw T n [45] (zst T n 35 (zfw T n [116, 117, 110, 110, 101, 108, 32] q0)))) (42, 82, [42]) (List.mem_of_getElem? (i := 10) rfl) ([42]) ztl_42 hPs227 hT (by decide +kernel)) kv_X12_readDigit zN398 (zE_9 zK398) rfl zk_2021 rfl hl.1 rfl (Nat.le_of_ble_eq_true rfl) (by decide) (by decide) dX12_readCommand_95 (fun r228 zMr228 zFr228 H locs hrr228 hp Wd => ?_)
      obtain ⟨rfl, rfl, rfl⟩ := hp
      have hPs230 : zPS T n (zst T n 35 (zfw T n [42] (zst T n 35 (zfw T n [45] (zst T n 35 (zfw T n [116, 117, 110, 110, 101, 108, 32] q0)))))) (zsp (zu (zsp (zu (zsp (zu (zu zM0 398 18 ((zM0 398 18) + 1)) 407 (4 * (zM0 398 18)) 117) (zst T n 35 (zfw T n [116, 117, 110, 110, 101, 108, 32] q0))) 407 ((4 * (zM0 398 18)) + 1) (if 0 ≤ zst T n 35 (zfw T n [116, 117, 110, 110, 101, 108, 32] q0) then znv T n 35 (zfw T n [116, 117, 110, 110, 101, 108, 32] q0) else 0)) (zst T n 35 (zfw T n [45] (zst T n 35 (zfw T n [116, 117, 110, 110, 101, 108, 32] q0))))) 407 ((4 * (zM0 398 18)) + 2) (if 0 ≤ zst T n 35 (zfw T n [45] (zst T n 35 (zfw T n [116, 117, 110, 110, 101, 108, 32] q0))) then znv T n 35 (zfw T n [45] (zst T n 35 (zfw T n [116, 117, 110, 110, 101, 108, 32] q0))) else 0)) (zst T n 35 (zfw T n [42] (zst T n 35 (zfw T n [45] (zst T n 35 (zfw T n [116, 117, 110, 110, 101, 108, 32] q0))))))) := zPS_sp hPs227 (zst_in (zfw_in [42] hPs227.2.2.2.2.2))
      refine z_iast C0 Wd zN407 zK407 zL407 (by omega) (by omega) (by decide) hrr228 dX12_readCommand_98 (fun H locs Wd => ?_)
      have hPs231 : zPS T n (zst T n 35 (zfw T n [42] (zst T n 35 (zfw T n [45] (zst T n 35 (zfw T n [116, 117, 110, 110, 101, 108, 32] q0)))))) (zu (zsp (zu (zsp (zu (zsp (zu (zu zM0 398 18 ((zM0 398 18) + 1)) 407 (4 * (zM0 398 18)) 117) (zst T n 35 (zfw T n [116, 117, 110, 110, 101, 108, 32] q0))) 407 ((4 * (zM0 398 18)) + 1) (if 0 ≤ zst T n 35 (zfw T n [116, 117, 110, 110, 101, 108, 32] q0) then znv T n 35 (zfw T n [116, 117, 110, 110, 101, 108, 32] q0) else 0)) (zst T n 35 (zfw T n [45] (zst T n 35 (zfw T n [116, 117, 110, 110, 101, 108, 32] q0))))) 407 ((4 * (zM0 398 18)) + 2) (if 0 ≤ zst T n 35 (zfw T n [45] (zst T n 35 (zfw T n [116, 117, 110, 110, 101, 108, 32] q0))) then znv T n 35 (zfw T n [45] (zst T n 35 (zfw T n [116, 117, 110, 110, 101, 108, 32] q0))) else 0)) (zst T n 35 (zfw T n [42] (zst T n 35 (zfw T n [45] (zst T n 35 (zfw T n [116, 117, 110, 110, 101, 108, 32] q0))))))) 407 ((4 * (zM0 398 18)) + 3) (if 0 ≤ zst T n 35 (zfw T n [42] (zst T n 35 (zfw T n [45] (zst T n 35 (zfw T n [116, 117, 110, 110, 101, 108, 32] q0))))) then znv T n 35 (zfw T n [42] (zst T n 35 (zfw T n [45] (zst T n 35 (zfw T n [116, 117, 110, 110, 101, 108, 32] q0))))) else 0)) := zPS_zu hPs230 (by decide) (by omega)
      refine z_goto C0 (tgt := 360) dX12_readCommand_99 (by decide) ?_
      have hkn : zkn T n q0 = 1 := by unfold zkn; rw [if_pos (by omega), if_pos (by omega)]
      have hQ : zEn T n q0 = (zst T n 35 (zfw T n [42] (zst T n 35 (zfw T n [45] (zst T n 35 (zfw T n [116, 117, 110, 110, 101, 108, 32] q0)))))) := by unfold zEn; rw [hkn]; rfl
      have hRC : zRC T n q0 (zM0 398 18) zM0 (zu (zsp (zu (zsp (zu (zsp (zu (zu zM0 398 18 ((zM0 398 18) + 1)) 407 (4 * (zM0 398 18)) 117) (zst T n 35 (zfw T n [116, 117, 110, 110, 101, 108, 32] q0))) 407 ((4 * (zM0 398 18)) + 1) (if 0 ≤ zst T n 35 (zfw T n [116, 117, 110, 110, 101, 108, 32] q0) then znv T n 35 (zfw T n [116, 117, 110, 110, 101, 108, 32] q0) else 0)) (zst T n 35 (zfw T n [45] (zst T n 35 (zfw T n [116, 117, 110, 110, 101, 108, 32] q0))))) 407 ((4 * (zM0 398 18)) + 2) (if 0 ≤ zst T n 35 (zfw T n [45] (zst T n 35 (zfw T n [116, 117, 110, 110, 101, 108, 32] q0))) then znv T n 35 (zfw T n [45] (zst T n 35 (zfw T n [116, 117, 110, 110, 101, 108, 32] q0))) else 0)) (zst T n 35 (zfw T n [42] (zst T n 35 (zfw T n [45] (zst T n 35 (zfw T n [116, 117, 110, 110, 101, 108, 32] q0))))))) 407 ((4 * (zM0 398 18)) + 3) (if 0 ≤ zst T n 35 (zfw T n [42] (zst T n 35 (zfw T n [45] (zst T n 35 (zfw T n [116, 117, 110, 110, 101, 108, 32] q0))))) then znv T n 35 (zfw T n [42] (zst T n 35 (zfw T n [45] (zst T n 35 (zfw T n [116, 117, 110, 110, 101, 108, 32] q0))))) else 0)) := by
        refine ⟨by rw [hQ]; exact hPs231, ((zu_ne (by omega)).trans ((zsp_398 (by omega) (by omega)).trans ((zu_ne (by omega)).trans ((zsp_398 (by omega) (by omega)).trans ((zu_ne (by omega)).trans ((zsp_398 (by omega) (by omega)).trans ((zu_ne (by omega)).trans (zu_same _ _ _ _)))))))), by rw [hkn]; exact ((zu_ne (by omega)).trans ((zsp_row (by omega) _).trans ((zu_ne (by omega)).trans ((zsp_row (by omega) _).trans ((zu_ne (by omega)).trans ((zsp_row (by omega) _).trans (zu_same _ _ _ _))))))), fun hq j j0 j1 => ?_, fun i h1 h2 => ?_, fun j h1 h2 h3 => ?_, fun j h => ?_⟩
        · rw [hQ] at hq; rw [hkn] at j1; unfold zka; rw [hkn]
          have j1 : j < 3 := j1
          have hj : j = 0 ∨ j = 1 ∨ j = 2 := by omega
          rcases hj with rfl | rfl | rfl
          · exact (((zu_ne (by omega)).trans ((zsp_row (by omega) _).trans ((zu_ne (by omega)).trans ((zsp_row (by omega) _).trans (zu_at (by omega) (by omega))))))).trans (if_pos (zfw_ge (zst_ge (zfw_ge (zst_ge hq)))))
          · exact (((zu_ne (by omega)).trans ((zsp_row (by omega) _).trans (zu_at (by omega) (by omega))))).trans (if_pos (zfw_ge (zst_ge hq)))
          · exact ((zu_at (by omega) (by omega))).trans (if_pos hq)
        · rw [zu_row (by omega), zsp_rw (by omega), zu_row (by omega), zsp_rw (by omega), zu_row (by omega), zsp_rw (by omega), zu_row (by omega), zu_row (by omega)]
        · rw [zu_ne (by omega), zsp_398 (by omega) (by omega), zu_ne (by omega), zsp_398 (by omega) (by omega), zu_ne (by omega), zsp_398 (by omega) (by omega), zu_ne (by omega), zu_ne (by omega)]
        · rw [zu_ne (by omega), zsp_row (by omega) _, zu_ne (by omega), zsp_row (by omega) _, zu_ne (by omega), zsp_row (by omega) _, zu_ne (by omega), zu_ne (by omega)]
      exact z_vret C0 Wd hret hlk ⟨hRC, rfl⟩ dX12_readCommand_360
