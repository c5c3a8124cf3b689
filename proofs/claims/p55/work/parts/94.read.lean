/-! the class's reader: a command -/
theorem zEn_zl {T : Int → Int} {n a k : Int} (h : zkn T n a = k) : zEn T n a = zfw T n (zkl k) a := by
  unfold zEn
  rw [h]
/-- what the class's readCommand brings at a, as the command at w -/
def zRD (T : Int → Int) (n a w : Int) (M F : zMem) (r : Int) (M' F' : zMem) : Prop :=
  zb (0 ≤ zEn T n a) = r ∧ M' 375 5 = zps (zEn T n a) ∧ (0 ≤ zEn T n a → F' w 0 = 10 + zkn T n a ∧ ∀ j, 0 ≤ j → j < zkm (zkn T n a) → M' (w + 1) j = zka T n a j) ∧
  (∀ i, i ≠ 375 → i ≠ w → i ≠ w + 1 → M' i = M i) ∧ (∀ j, j ≠ 5 → M' 375 j = M 375 j) ∧ (∀ i, i ≠ w → F' i = F i)
theorem zar_nums {T : Int → Int} {n a : Int} {r : Int → Int} (k : Nat) (hk : k < 8) (h : ∀ i : Nat, i < (zFq (10 + (k : Int))).2.2.length → (ztx (zFq (10 + (k : Int))) (i : Int) = 35 ∨ ztx (zFq (10 + (k : Int))) (i : Int) = 37) → r (zct (zFq (10 + (k : Int))) i) = znv T n (ztx (zFq (10 + (k : Int))) (i : Int)) (zfs T n (ztx (zFq (10 + (k : Int)))) i a)) (e : zkn T n a = (k : Int)) : ∀ j, 0 ≤ j → j < zkm (zkn T n a) → r j = zka T n a j := by
  have hin := zFq_in (f := 10 + (k : Int)) (by omega) (by omega)
  have key : ∀ i : Nat, i < (zFq (10 + (k : Int))).2.2.length → (ztx (zFq (10 + (k : Int))) (i : Int) = 35 ∨ ztx (zFq (10 + (k : Int))) (i : Int) = 37) → r (zct (zFq (10 + (k : Int))) i) = znv T n (ztx (zFq (10 + (k : Int))) (i : Int)) (zfw T n ((zkl (k : Int)).take i) a) := fun i h1 h2 => by
    rw [h i h1 h2, zfs_take i (by omega), hin.2.2, show 10 + (k : Int) - 10 = (k : Int) by omega]
  intro j j0 j1
  unfold zka
  rw [e] at j1 ⊢
  have ek : k = 0 ∨ k = 1 ∨ k = 2 ∨ k = 3 ∨ k = 4 ∨ k = 5 ∨ k = 6 ∨ k = 7 := by omega
  rcases ek with rfl | rfl | rfl | rfl | rfl | rfl | rfl | rfl
  · exact absurd j1 (by show ¬ j < 0; omega)
  · have j1 : j < 3 := j1
    have hj : j = 0 ∨ j = 1 ∨ j = 2 := by omega
    rcases hj with rfl | rfl | rfl
    · exact key 7 (by decide) (by decide +kernel)
    · exact key 9 (by decide) (by decide +kernel)
    · exact key 11 (by decide) (by decide +kernel)
  · have j1 : j < 1 := j1
    have hj : j = 0 := by omega
    rcases hj with rfl
    · exact key 5 (by decide) (by decide +kernel)
  · have j1 : j < 3 := j1
    have hj : j = 0 ∨ j = 1 ∨ j = 2 := by omega
    rcases hj with rfl | rfl | rfl
    · exact key 4 (by decide) (by decide +kernel)
    · exact key 6 (by decide) (by decide +kernel)
    · exact key 8 (by decide) (by decide +kernel)
  · have j1 : j < 1 := j1
    have hj : j = 0 := by omega
    rcases hj with rfl
    · exact key 7 (by decide) (by decide +kernel)
  · have j1 : j < 1 := j1
    have hj : j = 0 := by omega
    rcases hj with rfl
    · exact key 6 (by decide) (by decide +kernel)
  · have j1 : j < 2 := j1
    have hj : j = 0 ∨ j = 1 := by omega
    rcases hj with rfl | rfl
    · exact key 3 (by decide) (by decide +kernel)
    · exact key 5 (by decide) (by decide +kernel)
  · have j1 : j < 1 := j1
    have hj : j = 0 := by omega
    rcases hj with rfl
    · exact key 5 (by decide) (by decide +kernel)

theorem kv_J9_max_7cf53 : zKS yJ9_max_7cf53 cJ9_max_7cf53 2 (some .int) 2 := ⟨zk_1033, zk_1032, zk_50, by decide, by decide, by decide +kernel⟩
set_option maxHeartbeats 4000000 in
set_option maxRecDepth 100000 in
theorem ct_J9_max_7cf53 (l : Launch) (g : zG) (N : zNs) (zb6 : zIn N 396) (zb7 : zIn N 397) (ad : Int → Nat) (zM0 zF0 : zMem) (x0 : Int) (hx0 : zR x0) (x1 : Int) (hx1 : zR x1) : zMt l yJ9_max_7cf53 cJ9_max_7cf53 2 (some .int) 0 0 0 g N ad [.int (zI x0), .int (zI x1)] zM0 zF0 (zPi (fun r M' F' => (if x1 ≤ x0 then x0 else x1) = r ∧ zM0 = M' ∧ zF0 = F')) := by
  refine zMt.ofF "java/lang/Math" rfl (by decide +kernel) (Nat.le_of_ble_eq_true rfl) (fun {p e s m args below meth c ls} C0 Wd hl hret hlk hin => ?_)
  have hl : lv_has ls 2 [(0, .int (zI x0)), (1, .int (zI x1))] := hl
  refine z_iload_n C0 hl 0 rfl dJ9_max_7cf53_0 ?_
  refine z_iload_n C0 hl 1 rfl dJ9_max_7cf53_1 ?_
  refine z_icmp_lt C0 (tgt := 9) hx0 hx1 dJ9_max_7cf53_2 (by decide) (fun c1 => ?_) (fun c1 => ?_)
  · skip
    refine z_iload_n C0 hl 1 rfl dJ9_max_7cf53_9 ?_
    exact z_iret C0 Wd hret hlk hx1 ⟨by rw [if_neg (by omega)], rfl, rfl⟩ dJ9_max_7cf53_10
  · skip
    refine z_iload_n C0 hl 0 rfl dJ9_max_7cf53_5 ?_
    refine z_goto C0 (tgt := 10) dJ9_max_7cf53_6 (by decide) ?_
    exact z_iret C0 Wd hret hlk hx0 ⟨by rw [if_pos (by omega)], rfl, rfl⟩ dJ9_max_7cf53_10
theorem kv_X5_readCommand : zKV yX5_readCommand cX5_readCommand 5 (some .boolean) "DrumWarren$CommandReader" 2 := ⟨zk_1555, zk_1554, zk_16, zk_32, by decide, by decide, by decide +kernel⟩
set_option maxHeartbeats 4000000 in
set_option maxRecDepth 100000 in
theorem ct_X5_readCommand (l : Launch) (g : zG) (zX : va_W) (ad : Int → Nat) (zM0 zF0 : zMem) (T : Int → Int) (n : Int) (w : Int) (hcw : zCm w) (x0 : Int) (hx0 : zR x0) (hC : zCS T n zM0) (hT : ∀ j, 0 ≤ T j ∧ T j < 65536) (hx : 0 ≤ x0 ∧ x0 ≤ n) : zMt l yX5_readCommand cX5_readCommand 5 (some .boolean) 5 0 0 g (0, 398, zX) ad [.ref (ad 375), .int (zI x0), .ref (ad w)] zM0 zF0 (zPi (fun r M' F' => zRD T n x0 w zM0 zF0 r M' F')) := by
  refine zMt.of "DrumWarren$CommandReader" rfl (by decide +kernel) (Nat.le_of_ble_eq_true rfl) (fun {p e s m args below meth c ls} C0 Wd hl hret hlk hin => ?_)
  have hl : lv_has ls 5 [(0, .ref (ad 375)), (1, .int (zI x0)), (2, .ref (ad w))] := hl
  obtain ⟨hC1, hC2, hC3⟩ := id hC
  have hwb := zCm_bd hcw
  refine z_iload_n C0 hl 1 rfl dX5_readCommand_0 ?_
  refine z_istore_n C0 hl [(3, .int (zI x0)), (0, .ref (ad 375)), (1, .int (zI x0)), (2, .ref (ad w))] (by decide) rfl dX5_readCommand_1 (fun ls hl => ?_)
  refine z_iconst C0 dX5_readCommand_2 ?_
  refine z_istore C0 hl [(4, .int (zI 0)), (3, .int (zI x0)), (0, .ref (ad 375)), (1, .int (zI x0)), (2, .ref (ad w))] (by decide) rfl dX5_readCommand_3 (fun ls hl => ?_)
  have aft5 : ∀ (k5 : Nat) (hk5 : (k5 : Int) ≤ 8) (M2 : zMem) (F2 : zMem) (v3 : Int) (hfr : ∀ i, i ≠ 375 → i ≠ w → i ≠ w + 1 → M2 i = zM0 i) (hf5 : ∀ j, j ≠ 5 → M2 375 j = zM0 375 j) (hF : ∀ i, i ≠ w → F2 i = zF0 i) (hge : x0 ≤ v3 ∧ v3 ≤ n) (hno : ∀ i : Nat, i < k5 → (zfw T n (zkl (i : Int)) x0) < 0 ∧ zps (zfw T n (zkl (i : Int)) x0) ≤ v3) (hmx : v3 = x0 ∨ ∃ i : Nat, i < k5 ∧ v3 = zps (zfw T n (zkl (i : Int)) x0)) (hx5 : (k5 : Int) = 8) (H : Heap) (locs : List Loc) (ls : Array Slot) (Wd : zW g (zA (0, 398, zX) ad s.heap.size) s.heap (0, 398, zX) ad M2 F2 H locs) (hl : lv_has ls 5 [(0, .ref (ad 375)), (1, .int (zI x0)), (2, .ref (ad w)), (3, .int (zI v3)), (4, .int (zI (k5 : Int)))]), W p l e (zrm 5 0 0) s m args below meth c H locs 0 0 (zMQ below g (0, 398, zX) ad (zPi (fun r M' F' => zRD T n x0 w zM0 zF0 r M' F')) args s 0 0) (F0 m 46 ls []) := by
    intro k5 hk5 M2 F2 v3 hfr hf5 hF hge hno hmx hx5 H locs ls Wd hl
    replace hl : lv_has ls 5 [(0, .ref (ad 375)), (1, .int (zI x0)), (2, .ref (ad w)), (3, .int (zI v3))] := lv_sub hl [0, 1, 2, 3] rfl
    refine z_aload_n C0 hl 0 rfl dX5_readCommand_46 ?_
    refine z_iload_n C0 hl 3 rfl dX5_readCommand_47 ?_
    refine zp_3_5 C0 Wd zN375 zK375 (zR_mk (by omega) (by omega)) zk_296 dX5_readCommand_48 (fun H locs Wd => ?_)
    refine z_iconst C0 dX5_readCommand_51 ?_
    have hkb := zkn_bd (T := T) (n := n) (a := x0)
    have hown := hno (zkn T n x0).toNat (by omega)
    rw [Int.toNat_of_nonneg hkb.1] at hown
    have hq9 : zEn T n x0 = zfw T n (zkl (zkn T n x0)) x0 := rfl
    rw [← hq9] at hown
    have hv9 : v3 = zps (zEn T n x0) := by
      rcases hmx with e9 | ⟨i, i1, e9⟩
      · have := zdc_ge (T := T) (l := zkl (zkn T n x0)) hx.1 hx.2
        rw [← hq9] at this
        omega
      · by_cases e8 : (i : Int) = zkn T n x0
        · rw [e9, e8]; rfl
        · have := (zkn_other hx.1 hx.2 (by omega) (by omega) e8).2
          omega
    have hRD : zRD T n x0 w zM0 zF0 0 (zu M2 375 5 v3) F2 := ⟨zb_f (by omega), by rw [← hv9]; exact zu_same _ _ _ _, fun a0 => absurd a0 (by omega), fun i a1 a2 a3 => (zu_row a1).trans (hfr i a1 a2 a3), fun j a1 => (zu_ne (by omega)).trans (hf5 j a1), hF⟩
    exact z_zret C0 Wd hret hlk (by decide) hRD dX5_readCommand_52
  have lp5 : ∀ (d5 k5 : Nat) (hk5 : (k5 : Int) + d5 = 8) (M2 : zMem) (F2 : zMem) (v3 : Int) (hfr : ∀ i, i ≠ 375 → i ≠ w → i ≠ w + 1 → M2 i = zM0 i) (hf5 : ∀ j, j ≠ 5 → M2 375 j = zM0 375 j) (hF : ∀ i, i ≠ w → F2 i = zF0 i) (hge : x0 ≤ v3 ∧ v3 ≤ n) (hno : ∀ i : Nat, i < k5 → (zfw T n (zkl (i : Int)) x0) < 0 ∧ zps (zfw T n (zkl (i : Int)) x0) ≤ v3) (hmx : v3 = x0 ∨ ∃ i : Nat, i < k5 ∧ v3 = zps (zfw T n (zkl (i : Int)) x0)) (H : Heap) (locs : List Loc) (ls : Array Slot) (Wd : zW g (zA (0, 398, zX) ad s.heap.size) s.heap (0, 398, zX) ad M2 F2 H locs) (hl : lv_has ls 5 [(0, .ref (ad 375)), (1, .int (zI x0)), (2, .ref (ad w)), (3, .int (zI v3)), (4, .int (zI (k5 : Int)))]), W p l e (zrm 5 0 0) s m args below meth c H locs 0 0 (zMQ below g (0, 398, zX) ad (zPi (fun r M' F' => zRD T n x0 w zM0 zF0 r M' F')) args s 0 0) (F0 m 5 ls []) := by
    intro d5
    induction d5 with
    | zero =>
      intro k5 hk5 M2 F2 v3 hfr hf5 hF hge hno hmx H locs ls Wd hl
      have hC9 := zCS_fr hC hcw hfr hf5
      refine z_iload C0 hl 4 rfl dX5_readCommand_5 ?_
      refine z_getsN C0 Wd (zc_S2 C0) (zc_nf C0 (q := ("DrumWarren$CommandReader", 43, "DrumWarren", "COMMAND_KINDS", "[LDrumWarren$CommandKind;", "DrumWarren")) (List.mem_of_getElem? (i := 0) rfl)) dX5_readCommand_7 ?_
      refine z_tlen C0 Wd (zc_T2 C0) dX5_readCommand_10 ?_
      refine z_icmp_ge C0 (tgt := 46) (zR_mk (by omega) (by omega)) (zR_mk (by decide) (by decide)) dX5_readCommand_11 (by decide) (fun c1 => ?_) (fun c1 => ?_)
      · skip
        first | exact aft5 k5 (by omega) M2 F2 v3 hfr hf5 hF hge hno hmx (by first | assumption | omega) _ _ _ Wd (lv_sub hl [0, 1, 2, 3, 4] rfl) | (exfalso; omega)
      · skip
        exfalso; omega
    | succ d5 ih5 =>
      intro k5 hk5 M2 F2 v3 hfr hf5 hF hge hno hmx H locs ls Wd hl
      have hC9 := zCS_fr hC hcw hfr hf5
      refine z_iload C0 hl 4 rfl dX5_readCommand_5 ?_
      refine z_getsN C0 Wd (zc_S2 C0) (zc_nf C0 (q := ("DrumWarren$CommandReader", 43, "DrumWarren", "COMMAND_KINDS", "[LDrumWarren$CommandKind;", "DrumWarren")) (List.mem_of_getElem? (i := 0) rfl)) dX5_readCommand_7 ?_
      refine z_tlen C0 Wd (zc_T2 C0) dX5_readCommand_10 ?_
      refine z_icmp_ge C0 (tgt := 46) (zR_mk (by omega) (by omega)) (zR_mk (by decide) (by decide)) dX5_readCommand_11 (by decide) (fun c2 => ?_) (fun c2 => ?_)
      · skip
        first | exact aft5 k5 (by omega) M2 F2 v3 hfr hf5 hF hge hno hmx (by first | assumption | omega) _ _ _ Wd (lv_sub hl [0, 1, 2, 3, 4] rfl) | (exfalso; omega)
      · skip
        refine z_aload_n C0 hl 0 rfl dX5_readCommand_14 ?_
        refine z_getsN C0 Wd (zc_S2 C0) (zc_nf C0 (q := ("DrumWarren$CommandReader", 43, "DrumWarren", "COMMAND_KINDS", "[LDrumWarren$CommandKind;", "DrumWarren")) (List.mem_of_getElem? (i := 0) rfl)) dX5_readCommand_15 ?_
        refine z_iload C0 hl 4 rfl dX5_readCommand_18 ?_
        refine z_tabq C0 Wd (zc_T2 C0) (by omega) (by omega) (by decide) (by show Value.ref (g.2.2.2 (10 + ((((k5 : Int)).toNat : Nat) : Int))) = _; rw [Int.toNat_of_nonneg (by omega)]) dX5_readCommand_20 ?_
        refine z_iload_n C0 hl 1 rfl dX5_readCommand_21 ?_
        refine z_aload_n C0 hl 2 rfl dX5_readCommand_22 ?_
        refine z_invVi (As := [.ref (g.2.2.2 (10 + (k5 : Int))), .int (zI x0), .ref (ad w)]) (rest := []) C0 Wd (ct_X5_readForm l g zX ad M2 F2 T n (10 + (k5 : Int)) w hcw x0 hx0 hC9 hT (by omega) (by omega) hx) kv_X5_readForm zN375 (zE_3 zK375) rfl zk_1558 rfl hl.1 rfl (Nat.le_of_ble_eq_true rfl) (by decide) (by decide) dX5_readCommand_23 (fun r3 zMr3 zFr3 H locs hrr3 hp Wd => ?_)
        obtain ⟨hRr, hRp, hRF, hRf, hR5, hRa⟩ := hp
        have hzl9 : ztl (zFq (10 + (k5 : Int))) = zkl (k5 : Int) := by rw [(zFq_in (by omega) (by omega)).2.2, show 10 + (k5 : Int) - 10 = (k5 : Int) by omega]
        rw [hzl9] at hRr hRp hRa
        subst hRr
        subst hRF
        have hfr9 : ∀ i, i ≠ 375 → i ≠ w → i ≠ w + 1 → zMr3 i = zM0 i := fun i a1 a2 a3 => (hRf i a1 a2 a3).trans (hfr i a1 a2 a3)
        have hf59 : ∀ j, j ≠ 5 → zMr3 375 j = zM0 375 j := fun j a1 => (hR5 j a1).trans (hf5 j a1)
        have hF9 : ∀ i, i ≠ w → zu F2 w 0 (10 + (k5 : Int)) i = zF0 i := fun i a1 => (zu_row a1).trans (hF i a1)
        refine z_if_eq_b C0 (tgt := 31) dX5_readCommand_26 (by decide) (fun c5 => ?_) (fun c5 => ?_)
        · skip
          refine z_iload_n C0 hl 3 rfl dX5_readCommand_31 ?_
          refine z_aload_n C0 hl 0 rfl dX5_readCommand_32 ?_
          refine zg_3_5 C0 Wd zN375 zK375 zk_296 dX5_readCommand_33 ?_
          obtain ⟨he7, hz6⟩ : (zMr3 375 5) = (zps (zfw T n (zkl (k5 : Int)) x0)) ∧ zR (zps (zfw T n (zkl (k5 : Int)) x0)) := (fun q => ⟨q, q ▸ Wd.rm _ _⟩) hRp
          refine z_top (congrArg zI he7) ?_
          clear he7
          have hzb9 := zfw_in (T := T) (n := n) (zkl (k5 : Int)) (q := x0) (by rw [zps_nn (by omega)]; omega)
          refine z_invSi (As := [.int (zI v3), .int (zI (zps (zfw T n (zkl (k5 : Int)) x0)))]) (rest := []) C0 Wd (ct_J9_max_7cf53 l g (0, 398, zX) zN396 zN397 ad zMr3 (zu F2 w 0 (10 + (k5 : Int))) v3 (zR_mk (by omega) (by omega)) (zps (zfw T n (zkl (k5 : Int)) x0)) hz6) kv_J9_max_7cf53 zk_1588 rfl hl.1 rfl (Nat.le_of_ble_eq_true rfl) (by decide) (by decide) dX5_readCommand_36 (fun r8 zMr8 zFr8 H locs hrr8 hp Wd => ?_)
          obtain ⟨rfl, rfl, rfl⟩ := hp
          refine z_istore_n C0 hl [(3, .int (zI (if (zps (zfw T n (zkl (k5 : Int)) x0)) ≤ v3 then v3 else (zps (zfw T n (zkl (k5 : Int)) x0))))), (0, .ref (ad 375)), (1, .int (zI x0)), (2, .ref (ad w)), (4, .int (zI (k5 : Int)))] (by decide) rfl dX5_readCommand_39 (fun ls hl => ?_)
          refine z_iinc C0 hl 4 (t := (k5 : Int)) (u := ((k5 : Int) + 1)) rfl (by omega) [(4, .int (zI ((k5 : Int) + 1))), (3, .int (zI (if (zps (zfw T n (zkl (k5 : Int)) x0)) ≤ v3 then v3 else (zps (zfw T n (zkl (k5 : Int)) x0))))), (0, .ref (ad 375)), (1, .int (zI x0)), (2, .ref (ad w))] (by decide) rfl dX5_readCommand_40 (fun ls hl => ?_)
          refine z_goto C0 (tgt := 5) dX5_readCommand_43 (by decide) ?_
          exact ih5 (k5 + 1) (by omega) zMr3 (zu F2 w 0 (10 + (k5 : Int))) (if (zps (zfw T n (zkl (k5 : Int)) x0)) ≤ v3 then v3 else (zps (zfw T n (zkl (k5 : Int)) x0))) hfr9 hf59 hF9 (by split <;> omega) (fun i a1 => by
              by_cases e9 : i = k5
              · subst e9
                exact ⟨by omega, by split <;> omega⟩
              · have := hno i (by omega)
                exact ⟨this.1, by split <;> omega⟩) (by
              by_cases e9 : zps (zfw T n (zkl (k5 : Int)) x0) ≤ v3
              · rw [if_pos e9]
                rcases hmx with e8 | ⟨i, i1, e8⟩
                · exact Or.inl e8
                · exact Or.inr ⟨i, by omega, e8⟩
              · rw [if_neg e9]
                exact Or.inr ⟨k5, by omega, rfl⟩) _ _ _ Wd (lv_sub hl [2, 3, 4, 1, 0] rfl)
        · skip
          refine z_iconst C0 dX5_readCommand_29 ?_
          have hek : zkn T n x0 = (k5 : Int) := by
            by_cases e9 : (k5 : Int) = zkn T n x0
            · exact e9.symm
            · have := (zkn_other hx.1 hx.2 (by omega) (by omega) e9).1
              omega
          have hq9 : zEn T n x0 = (zfw T n (zkl (k5 : Int)) x0) := zEn_zl hek
          have hRD : zRD T n x0 w zM0 zF0 1 zMr3 (zu F2 w 0 (10 + (k5 : Int))) := ⟨by rw [hq9]; exact zb_t (by assumption), by rw [hq9]; exact hRp, fun _ => ⟨by rw [hek]; exact zu_same _ _ _ _, zar_nums k5 (by omega) (hRa (by assumption)) hek⟩, hfr9, hf59, hF9⟩
          exact z_zret C0 Wd hret hlk (by decide) hRD dX5_readCommand_30
  exact lp5 8 0 (by omega) zM0 zF0 x0 (fun _ _ _ _ => rfl) (fun _ _ => rfl) (fun _ _ => rfl) ⟨by omega, by omega⟩ (fun i a1 => absurd a1 (Nat.not_lt_zero i)) (Or.inl rfl) _ _ _ Wd (lv_sub hl [2, 3, 4, 1, 0] rfl)
