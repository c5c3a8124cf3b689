/-! the class's reader: a text -/
/-- where the k-th command begins -/
def zAt (T : Int → Int) (n : Int) : Nat → Int
  | 0 => 0
  | k + 1 => zEn T n (zAt T n k) + 1
/-- the k-th command is whole, and another follows -/
def zgo (T : Int → Int) (n : Int) (k : Nat) : Prop := 0 ≤ zEn T n (zAt T n k) ∧ zEn T n (zAt T n k) < n ∧ T (zEn T n (zAt T n k)) = 59
theorem zst_up {T : Int → Int} {n c q : Int} (h : 0 ≤ zst T n c q) : q + 1 ≤ zst T n c q := by
  have h0 := zst_ge h
  by_cases c1 : c = 35
  · subst c1
    by_cases d : zdg T n q
    · rw [zst_d h0 d]; omega
    · rw [zst_d0 h0 d] at h; omega
  · by_cases c2 : c = 37
    · subst c2
      by_cases d : zdg T n q
      · by_cases d2 : zdg T n (q + 1)
        · rw [zst_n2 h0 d d2]; omega
        · rw [zst_n1 h0 d d2]; omega
      · rw [zst_n0 h0 d] at h; omega
    · by_cases d : q < n ∧ T q = c
      · rw [zst_s1 h0 c1 c2 d]; omega
      · rw [zst_s0 h0 c1 c2 d] at h; omega
theorem zfw_up {T : Int → Int} {n : Int} : ∀ (l : List Int) {q : Int}, 0 ≤ zfw T n l q → q + (l.length : Int) ≤ zfw T n l q
  | [], q, _ => by show q + 0 ≤ q; omega
  | c :: r, q, h => by
    have a := zfw_up (T := T) (n := n) r (q := zst T n c q) h
    have b := zst_up (zfw_ge (show 0 ≤ zfw T n r (zst T n c q) from h))
    show q + ((r.length + 1 : Nat) : Int) ≤ zfw T n r (zst T n c q)
    omega
theorem zkl_len {k : Int} (h0 : 0 ≤ k) (h1 : k < 8) : 6 ≤ (zkl k).length := by
  have e : k = 0 ∨ k = 1 ∨ k = 2 ∨ k = 3 ∨ k = 4 ∨ k = 5 ∨ k = 6 ∨ k = 7 := by omega
  rcases e with rfl | rfl | rfl | rfl | rfl | rfl | rfl | rfl <;> decide
theorem zEn_up {T : Int → Int} {n a : Int} (h : 0 ≤ zEn T n a) : a + 6 ≤ zEn T n a := by
  have k := zkn_bd (T := T) (n := n) (a := a)
  have b := zkl_len k.1 k.2
  have c := zfw_up (T := T) (n := n) (zkl (zkn T n a)) h
  have e : zEn T n a = zfw T n (zkl (zkn T n a)) a := rfl
  omega
theorem zAt_bd {T : Int → Int} {n : Int} (hn : 0 ≤ n) (k : Nat) (h : ∀ i, i < k → zgo T n i) : 7 * (k : Int) ≤ zAt T n k ∧ zAt T n k ≤ n := by
  induction k with
  | zero => show 7 * 0 ≤ (0 : Int) ∧ (0 : Int) ≤ n; omega
  | succ k ih =>
    have a := ih (fun i hi => h i (by omega))
    have b := h k (by omega)
    have c := zEn_up b.1
    have d := b.2.1
    show 7 * ((k + 1 : Nat) : Int) ≤ zEn T n (zAt T n k) + 1 ∧ zEn T n (zAt T n k) + 1 ≤ n
    omega
theorem zEn_in {T : Int → Int} {n a : Int} (h0 : 0 ≤ a) (h1 : a ≤ n) : 0 ≤ zps (zEn T n a) ∧ zps (zEn T n a) ≤ n := zfw_in _ (by rw [zps_nn h0]; omega)
/-- the place where the text of m + 1 commands goes wrong, or -1 -/
def zer (T : Int → Int) (n : Int) (m : Nat) : Int := if 0 ≤ zEn T n (zAt T n m) ∧ ¬ zEn T n (zAt T n m) < n then -1 else zps (zEn T n (zAt T n m))
theorem zm_one {T : Int → Int} {n : Int} {m r : Nat} (h1 : ∀ i, i < m → zgo T n i) (h2 : ¬ zgo T n m) (h3 : ∀ i, i < r → zgo T n i) (h4 : ¬ zgo T n r) : m = r := by
  rcases Nat.lt_trichotomy m r with h | h | h
  · exact absurd (h3 m h) h2
  · exact h
  · exact absurd (h1 r h) h4
/-- the k-th command stands at its place of the class -/
def zCk (T : Int → Int) (n : Int) (k : Nat) (M F : zMem) : Prop := 0 ≤ zEn T n (zAt T n k) → F (378 + 2 * (k : Int)) 0 = 10 + zkn T n (zAt T n k) ∧ ∀ j, 0 ≤ j → j < zkm (zkn T n (zAt T n k)) → M (378 + 2 * (k : Int) + 1) j = zka T n (zAt T n k) j
/-- what readText brings, of a text of m + 1 commands -/
def zRT (T : Int → Int) (n : Int) (m : Nat) (M F M' F' : zMem) : Prop :=
  (∀ i, i < m → zgo T n i) ∧ ¬ zgo T n m ∧ M' 375 3 = (m : Int) + 1 ∧ M' 375 4 = zer T n m ∧ (∀ k, k ≤ m → zCk T n k M' F') ∧ (∀ i, (i < 375 ∨ i = 376 ∨ i = 377 ∨ 396 ≤ i) → M' i = M i ∧ F' i = F i) ∧ M' 375 1 = M 375 1

theorem kv_X5_readText : zKV yX5_readText cX5_readText 4 none "DrumWarren$CommandReader" 0 := ⟨zk_1551, zk_1549, zk_1550, zk_32, by decide, by decide, by decide +kernel⟩
set_option maxHeartbeats 4000000 in
set_option maxRecDepth 100000 in
theorem ct_X5_readText (l : Launch) (g : zG) (zX : va_W) (ad : Int → Nat) (zM0 zF0 : zMem) (T : Int → Int) (n : Int) (hC : zCS T n zM0) (hT : ∀ j, 0 ≤ T j ∧ T j < 65536) : zMt l yX5_readText cX5_readText 4 none 6 0 0 g (0, 398, zX) ad [.ref (ad 375)] zM0 zF0 (zPv (fun M' F' => ∃ m : Nat, zRT T n m zM0 zF0 M' F')) := by
  refine zMt.of "DrumWarren$CommandReader" rfl (by decide +kernel) (Nat.le_of_ble_eq_true rfl) (fun {p e s m args below meth c ls} C0 Wd hl hret hlk hin => ?_)
  have hl : lv_has ls 4 [(0, .ref (ad 375))] := hl
  obtain ⟨hC1, hC2, hC3⟩ := id hC
  refine z_aload_n C0 hl 0 rfl dX5_readText_0 ?_
  refine z_iconst C0 dX5_readText_1 ?_
  refine zp_3_3 C0 Wd zN375 zK375 (zR_mk (by decide) (by decide)) zk_292 dX5_readText_2 (fun H locs Wd => ?_)
  refine z_aload_n C0 hl 0 rfl dX5_readText_5 ?_
  refine z_iconst C0 dX5_readText_6 ?_
  refine zp_3_4 C0 Wd zN375 zK375 (zR_mk (by decide) (by decide)) zk_294 dX5_readText_7 (fun H locs Wd => ?_)
  refine z_iconst C0 dX5_readText_10 ?_
  refine z_istore_n C0 hl [(1, .int (zI 0)), (0, .ref (ad 375))] (by decide) rfl dX5_readText_11 (fun ls hl => ?_)
  refine z_iconst C0 dX5_readText_12 ?_
  refine z_istore_n C0 hl [(2, .int (zI 1)), (1, .int (zI 0)), (0, .ref (ad 375))] (by decide) rfl dX5_readText_13 (fun ls hl => ?_)
  have aft14 : ∀ (k14 : Nat) (hk14 : (k14 : Int) ≤ 9) (M2 : zMem) (F2 : zMem) (v1 : Int) (v2 : Int) (hcc : M2 375 3 = (k14 : Int)) (hn : M2 375 1 = n) (hfr : ∀ i, (i < 375 ∨ i = 376 ∨ i = 377 ∨ 396 ≤ i) → M2 i = zM0 i ∧ F2 i = zF0 i) (hcm : ∀ i : Nat, i < k14 → zCk T n i M2 F2) (hmd : (v2 = 1 ∧ v1 = zAt T n k14 ∧ (∀ i, i < k14 → zgo T n i) ∧ M2 375 4 = -1) ∨ (v2 = 0 ∧ ∃ m : Nat, k14 = m + 1 ∧ (∀ i, i < m → zgo T n i) ∧ ¬ zgo T n m ∧ M2 375 4 = zer T n m)) (hx14 : v2 = 0) (H : Heap) (locs : List Loc) (ls : Array Slot) (Wd : zW g (zA (0, 398, zX) ad s.heap.size) s.heap (0, 398, zX) ad M2 F2 H locs) (hl : lv_has ls 4 [(0, .ref (ad 375)), (1, .int (zI v1)), (2, .int (zI v2))]), W p l e (zrm 6 0 0) s m args below meth c H locs 0 0 (zMQ below g (0, 398, zX) ad (zPv (fun M' F' => ∃ m : Nat, zRT T n m zM0 zF0 M' F')) args s 0 0) (F0 m 112 ls []) := by
    intro k14 hk14 M2 F2 v1 v2 hcc hn hfr hcm hmd hx14 H locs ls Wd hl
    obtain ⟨m9, em, hgo, hng, her⟩ := (hmd.resolve_left (fun z => absurd z.1 (by omega))).2
    subst em
    exact z_vret C0 Wd hret hlk ⟨m9, hgo, hng, hcc, her, fun k a1 => hcm k (by omega), hfr, hn.trans hC.2.1.symm⟩ dX5_readText_112
  have lp14 : ∀ (d14 k14 : Nat) (hk14 : (k14 : Int) + d14 = 9) (M2 : zMem) (F2 : zMem) (v1 : Int) (v2 : Int) (hcc : M2 375 3 = (k14 : Int)) (hn : M2 375 1 = n) (hfr : ∀ i, (i < 375 ∨ i = 376 ∨ i = 377 ∨ 396 ≤ i) → M2 i = zM0 i ∧ F2 i = zF0 i) (hcm : ∀ i : Nat, i < k14 → zCk T n i M2 F2) (hmd : (v2 = 1 ∧ v1 = zAt T n k14 ∧ (∀ i, i < k14 → zgo T n i) ∧ M2 375 4 = -1) ∨ (v2 = 0 ∧ ∃ m : Nat, k14 = m + 1 ∧ (∀ i, i < m → zgo T n i) ∧ ¬ zgo T n m ∧ M2 375 4 = zer T n m)) (H : Heap) (locs : List Loc) (ls : Array Slot) (Wd : zW g (zA (0, 398, zX) ad s.heap.size) s.heap (0, 398, zX) ad M2 F2 H locs) (hl : lv_has ls 4 [(0, .ref (ad 375)), (1, .int (zI v1)), (2, .int (zI v2))]), W p l e (zrm 6 0 0) s m args below meth c H locs 0 0 (zMQ below g (0, 398, zX) ad (zPv (fun M' F' => ∃ m : Nat, zRT T n m zM0 zF0 M' F')) args s 0 0) (F0 m 14 ls []) := by
    intro d14
    induction d14 with
    | zero =>
      intro k14 hk14 M2 F2 v1 v2 hcc hn hfr hcm hmd H locs ls Wd hl
      have hC9 : zCS T n M2 := ⟨((hfr 376 (by omega)).1).trans hC.1, hn, hC.2.2⟩
      have hm1 : v2 ≠ 0 → 7 * (k14 : Int) ≤ v1 ∧ v1 ≤ n := fun a0 => by obtain ⟨b0, b1, b2, b3⟩ := hmd.resolve_right (fun z => absurd z.1 a0); rw [b1]; exact zAt_bd hC3.1 k14 b2
      have hv01 : v2 = 0 ∨ v2 = 1 := hmd.elim (fun z => Or.inr z.1) (fun z => Or.inl z.1)
      refine z_iload_n C0 hl 2 rfl dX5_readText_14 ?_
      refine z_if_eq C0 (tgt := 112) (zR_mk (by omega) (by omega)) dX5_readText_15 (by decide) (fun c1 => ?_) (fun c1 => ?_)
      · skip
        first | exact aft14 k14 (by omega) M2 F2 v1 v2 hcc hn hfr hcm hmd (by first | assumption | omega) _ _ _ Wd (lv_sub hl [0, 1, 2] rfl) | (exfalso; omega)
      · skip
        have hm9 := hmd.resolve_right (fun z => absurd z.1 (by omega))
        obtain ⟨hv2, hv1, hgo, her⟩ := hm9
        have hab := zAt_bd hC3.1 k14 hgo
        refine z_aload_n C0 hl 0 rfl dX5_readText_18 ?_
        refine zg_3_3 C0 Wd zN375 zK375 zk_292 dX5_readText_19 ?_
        obtain ⟨he3, hz2⟩ : (M2 375 3) = (k14 : Int) ∧ zR (k14 : Int) := (fun q => ⟨q, q ▸ Wd.rm _ _⟩) hcc
        refine z_top (congrArg zI he3) ?_
        clear he3
        refine z_bipush C0 dX5_readText_22 (by decide) ?_
        refine z_icmp_ge C0 (tgt := 112) hz2 (zR_mk (by decide) (by decide)) dX5_readText_24 (by decide) (fun c4 => ?_) (fun c4 => ?_)
        · skip
          first | exact aft14 k14 (by omega) M2 F2 v1 v2 hcc hn hfr hcm hmd (by first | assumption | omega) _ _ _ Wd (lv_sub hl [0, 1, 2] rfl) | (exfalso; omega)
        · skip
          exfalso; omega
    | succ d14 ih14 =>
      intro k14 hk14 M2 F2 v1 v2 hcc hn hfr hcm hmd H locs ls Wd hl
      have hC9 : zCS T n M2 := ⟨((hfr 376 (by omega)).1).trans hC.1, hn, hC.2.2⟩
      have hm1 : v2 ≠ 0 → 7 * (k14 : Int) ≤ v1 ∧ v1 ≤ n := fun a0 => by obtain ⟨b0, b1, b2, b3⟩ := hmd.resolve_right (fun z => absurd z.1 a0); rw [b1]; exact zAt_bd hC3.1 k14 b2
      have hv01 : v2 = 0 ∨ v2 = 1 := hmd.elim (fun z => Or.inr z.1) (fun z => Or.inl z.1)
      refine z_iload_n C0 hl 2 rfl dX5_readText_14 ?_
      refine z_if_eq C0 (tgt := 112) (zR_mk (by omega) (by omega)) dX5_readText_15 (by decide) (fun c5 => ?_) (fun c5 => ?_)
      · skip
        first | exact aft14 k14 (by omega) M2 F2 v1 v2 hcc hn hfr hcm hmd (by first | assumption | omega) _ _ _ Wd (lv_sub hl [0, 1, 2] rfl) | (exfalso; omega)
      · skip
        have hm9 := hmd.resolve_right (fun z => absurd z.1 (by omega))
        obtain ⟨hv2, hv1, hgo, her⟩ := hm9
        have hab := zAt_bd hC3.1 k14 hgo
        refine z_aload_n C0 hl 0 rfl dX5_readText_18 ?_
        refine zg_3_3 C0 Wd zN375 zK375 zk_292 dX5_readText_19 ?_
        obtain ⟨he7, hz6⟩ : (M2 375 3) = (k14 : Int) ∧ zR (k14 : Int) := (fun q => ⟨q, q ▸ Wd.rm _ _⟩) hcc
        refine z_top (congrArg zI he7) ?_
        clear he7
        refine z_bipush C0 dX5_readText_22 (by decide) ?_
        refine z_icmp_ge C0 (tgt := 112) hz6 (zR_mk (by decide) (by decide)) dX5_readText_24 (by decide) (fun c8 => ?_) (fun c8 => ?_)
        · skip
          first | exact aft14 k14 (by omega) M2 F2 v1 v2 hcc hn hfr hcm hmd (by first | assumption | omega) _ _ _ Wd (lv_sub hl [0, 1, 2] rfl) | (exfalso; omega)
        · skip
          refine z_aload_n C0 hl 0 rfl dX5_readText_27 ?_
          refine z_iload_n C0 hl 1 rfl dX5_readText_28 ?_
          refine z_aload_n C0 hl 0 rfl dX5_readText_29 ?_
          refine zg_3_2 C0 Wd zN375 zK375 zk_290 dX5_readText_30 ?_
          refine z_rf (show (375 + 2) = 377 by decide) ?_
          refine z_aload_n C0 hl 0 rfl dX5_readText_33 ?_
          refine zg_3_3 C0 Wd zN375 zK375 zk_292 dX5_readText_34 ?_
          obtain ⟨he10, hz9⟩ : (M2 375 3) = (k14 : Int) ∧ zR (k14 : Int) := (fun q => ⟨q, q ▸ Wd.rm _ _⟩) hcc
          refine z_top (congrArg zI he10) ?_
          clear he10
          refine z_aald14 C0 Wd zN377 zK377 zL377 (by omega) (by omega) (by decide) dX5_readText_37 ?_
          refine z_rf (show (377 + 1 + 2 * (k14 : Int)) = (378 + 2 * (k14 : Int)) by omega) ?_
          refine z_invVi (As := [.int (zI v1), .ref (ad (378 + 2 * (k14 : Int)))]) (rest := []) C0 Wd (ct_X5_readCommand l g zX ad M2 F2 T n (378 + 2 * (k14 : Int)) ⟨(k14 : Int), by omega, by omega, rfl⟩ v1 (zR_mk (by omega) (by omega)) hC9 hT ⟨by omega, by omega⟩) kv_X5_readCommand zN375 (zE_3 zK375) rfl zk_1552 rfl hl.1 rfl (Nat.le_of_ble_eq_true rfl) (by decide) (by decide) dX5_readText_38 (fun r11 zMr11 zFr11 H locs hrr11 hp Wd => ?_)
          obtain ⟨hDr, hDp, hDa, hDf, hD5, hDF⟩ := hp
          rw [hv1] at hDr hDp hDa
          subst hDr
          have hwt : zCm (378 + 2 * (k14 : Int)) := ⟨(k14 : Int), by omega, by omega, rfl⟩
          have hCa := zCS_fr hC9 hwt hDf hD5
          have hcca := (hD5 3 (by decide)).trans hcc
          have hera := (hD5 4 (by decide)).trans her
          have hzq := zEn_in (T := T) (n := n) (a := (zAt T n k14)) (by omega) (by omega)
          have hka : ∀ i : Nat, i < k14 + 1 → zCk T n i zMr11 zFr11 := by
            intro i a1
            by_cases e9 : i = k14
            · rw [e9]; exact hDa
            · intro a2
              have b9 := hcm i (by omega) a2
              exact ⟨(congrFun (hDF _ (by omega)) _).trans b9.1, fun j j0 j1 => (congrFun (hDf _ (by omega) (by omega) (by omega)) _).trans (b9.2 j j0 j1)⟩
          have hfa : ∀ i, (i < 375 ∨ i = 376 ∨ i = 377 ∨ 396 ≤ i) → zMr11 i = zM0 i ∧ zFr11 i = zF0 i := fun i a1 => ⟨(hDf i (by omega) (by omega) (by omega)).trans (hfr i a1).1, (hDF i (by omega)).trans (hfr i a1).2⟩
          refine z_istore_n C0 hl [(3, .int (zI (zb (0 ≤ (zEn T n (zAt T n k14)))))), (0, .ref (ad 375)), (1, .int (zI v1)), (2, .int (zI v2))] (by decide) rfl dX5_readText_41 (fun ls hl => ?_)
          refine z_iload_n C0 hl 0 rfl dX5_readText_42 ?_
          refine z_if_eq_b C0 (tgt := 63) dX5_readText_43 (by decide) (fun c13 => ?_) (fun c13 => ?_)
          · skip
            have hz9 := c13
            refine z_iconst C0 dX5_readText_63 ?_
            refine z_istore_n C0 hl [(2, .int (zI 0)), (3, .int (zI (zb (0 ≤ (zEn T n (zAt T n k14)))))), (0, .ref (ad 375)), (1, .int (zI v1))] (by decide) rfl dX5_readText_64 (fun ls hl => ?_)
            refine z_iload_n C0 hl 1 rfl dX5_readText_65 ?_
            refine z_if_eq_b C0 (tgt := 84) dX5_readText_66 (by decide) (fun c14 => ?_) (fun c14 => absurd c14 c13)
            refine z_aload_n C0 hl 2 rfl dX5_readText_84 ?_
            refine z_aload_n C0 hl 2 rfl dX5_readText_85 ?_
            refine zg_3_5 C0 Wd zN375 zK375 zk_296 dX5_readText_86 ?_
            obtain ⟨he16, hz15⟩ : (zMr11 375 5) = (zps (zEn T n (zAt T n k14))) ∧ zR (zps (zEn T n (zAt T n k14))) := (fun q => ⟨q, q ▸ Wd.rm _ _⟩) hDp
            refine z_top (congrArg zI he16) ?_
            clear he16
            refine zp_3_4 C0 Wd zN375 zK375 hz15 zk_294 dX5_readText_89 (fun H locs Wd => ?_)
            refine z_aload_n C0 hl 2 rfl dX5_readText_92 ?_
            refine z_dup C0 rfl dX5_readText_93 ?_
            refine zg_3_3 C0 Wd zN375 zK375 zk_292 dX5_readText_94 ?_
            obtain ⟨he18, hz17⟩ : ((zu zMr11 375 4 (zps (zEn T n (zAt T n k14)))) 375 3) = (k14 : Int) ∧ zR (k14 : Int) := (fun q => ⟨q, q ▸ Wd.rm _ _⟩) ((zu_ne (by omega)).trans hcca)
            refine z_top (congrArg zI he18) ?_
            clear he18
            refine z_iconst C0 dX5_readText_97 ?_
            refine z_iadd C0 dX5_readText_98 ?_
            refine zp_3_3 C0 Wd zN375 zK375 (by have q0 := hz17.1; have p0 := hz17.2; exact zR_mk (by omega) (by omega)) zk_292 dX5_readText_99 (fun H locs Wd => ?_)
            refine z_aload_n C0 hl 2 rfl dX5_readText_102 ?_
            refine zg_3_5 C0 Wd zN375 zK375 zk_296 dX5_readText_103 ?_
            obtain ⟨he20, hz19⟩ : ((zu (zu zMr11 375 4 (zps (zEn T n (zAt T n k14)))) 375 3 ((k14 : Int) + 1)) 375 5) = (zps (zEn T n (zAt T n k14))) ∧ zR (zps (zEn T n (zAt T n k14))) := (fun q => ⟨q, q ▸ Wd.rm _ _⟩) ((zu_ne (by omega)).trans ((zu_ne (by omega)).trans hDp))
            refine z_top (congrArg zI he20) ?_
            clear he20
            refine z_iconst C0 dX5_readText_106 ?_
            refine z_iadd C0 dX5_readText_107 ?_
            refine z_istore_n C0 hl [(1, .int (zI ((zps (zEn T n (zAt T n k14))) + 1))), (2, .int (zI 0)), (3, .int (zI (zb (0 ≤ (zEn T n (zAt T n k14)))))), (0, .ref (ad 375))] (by decide) rfl dX5_readText_108 (fun ls hl => ?_)
            refine z_goto C0 (tgt := 14) dX5_readText_109 (by decide) ?_
            exact ih14 (k14 + 1) (by omega) (zu (zu zMr11 375 4 (zps (zEn T n (zAt T n k14)))) 375 3 ((k14 : Int) + 1)) zFr11 ((zps (zEn T n (zAt T n k14))) + 1) 0 (zu_same _ _ _ _) (((zu_ne (by omega)).trans ((zu_ne (by omega)).trans hCa.2.1))) (fun i a1 => ⟨((zu_row (by omega)).trans ((zu_row (by omega)).trans (hfa i a1).1)), (hfa i a1).2⟩) (fun i a1 a2 => ⟨(hka i a1 a2).1, fun j j0 j1 => ((zu_ne (by omega)).trans ((zu_ne (by omega)).trans ((hka i a1 a2).2 j j0 j1)))⟩) (Or.inr ⟨rfl, k14, rfl, hgo, (fun z => absurd z.1 c13), ((zu_ne (by omega)).trans ((zu_same _ _ _ _).trans (if_neg (fun z => absurd z.1 c13)).symm))⟩) _ _ _ Wd (lv_sub hl [3, 0, 1] rfl)
          · skip
            refine z_aload_n C0 hl 1 rfl dX5_readText_46 ?_
            refine z_aload_n C0 hl 1 rfl dX5_readText_47 ?_
            refine zg_3_5 C0 Wd zN375 zK375 zk_296 dX5_readText_48 ?_
            obtain ⟨he22, hz21⟩ : (zMr11 375 5) = (zps (zEn T n (zAt T n k14))) ∧ zR (zps (zEn T n (zAt T n k14))) := (fun q => ⟨q, q ▸ Wd.rm _ _⟩) hDp
            refine z_top (congrArg zI he22) ?_
            clear he22
            refine z_bipush C0 dX5_readText_51 (by decide) ?_
            refine z_invVi (As := [.int (zI (zps (zEn T n (zAt T n k14)))), .int (zI 59)]) (rest := []) C0 Wd (ct_X5_isAt l g zX ad zMr11 zFr11 T n (zps (zEn T n (zAt T n k14))) hz21 59 (zR_mk (by decide) (by decide)) hCa hT) kv_X5_isAt zN375 (zE_3 zK375) rfl zk_1584 rfl hl.1 rfl (Nat.le_of_ble_eq_true rfl) (by decide) (by decide) dX5_readText_53 (fun r23 zMr23 zFr23 H locs hrr23 hp Wd => ?_)
            obtain ⟨rfl, rfl, rfl⟩ := hp
            refine z_if_eq_b C0 (tgt := 63) dX5_readText_56 (by decide) (fun c25 => ?_) (fun c25 => ?_)
            · skip
              have hz9 := c25
              refine z_iconst C0 dX5_readText_63 ?_
              refine z_istore_n C0 hl [(2, .int (zI 0)), (3, .int (zI (zb (0 ≤ (zEn T n (zAt T n k14)))))), (0, .ref (ad 375)), (1, .int (zI v1))] (by decide) rfl dX5_readText_64 (fun ls hl => ?_)
              refine z_iload_n C0 hl 1 rfl dX5_readText_65 ?_
              refine z_if_eq_b C0 (tgt := 84) dX5_readText_66 (by decide) (fun c26 => absurd c26 (fun z => z c13)) (fun c26 => ?_)
              refine z_iload_n C0 hl 0 rfl dX5_readText_69 ?_
              refine z_if_ne C0 (tgt := 92) (zR_mk (by decide) (by decide)) dX5_readText_70 (by decide) (fun h => absurd h (by decide)) (fun _ => ?_)
              refine z_aload_n C0 hl 2 rfl dX5_readText_73 ?_
              refine zg_3_5 C0 Wd zN375 zK375 zk_296 dX5_readText_74 ?_
              obtain ⟨he29, hz28⟩ : (zMr11 375 5) = (zps (zEn T n (zAt T n k14))) ∧ zR (zps (zEn T n (zAt T n k14))) := (fun q => ⟨q, q ▸ Wd.rm _ _⟩) hDp
              refine z_top (congrArg zI he29) ?_
              clear he29
              refine z_aload_n C0 hl 2 rfl dX5_readText_77 ?_
              refine zg_3_1 C0 Wd zN375 zK375 zk_288 dX5_readText_78 ?_
              obtain ⟨he31, hz30⟩ : (zMr11 375 1) = n ∧ zR n := (fun q => ⟨q, q ▸ Wd.rm _ _⟩) hCa.2.1
              refine z_top (congrArg zI he31) ?_
              clear he31
              refine z_icmp_ge C0 (tgt := 92) hz28 hz30 dX5_readText_81 (by decide) (fun c32 => ?_) (fun c32 => ?_)
              · skip
                refine z_aload_n C0 hl 2 rfl dX5_readText_92 ?_
                refine z_dup C0 rfl dX5_readText_93 ?_
                refine zg_3_3 C0 Wd zN375 zK375 zk_292 dX5_readText_94 ?_
                obtain ⟨he34, hz33⟩ : (zMr11 375 3) = (k14 : Int) ∧ zR (k14 : Int) := (fun q => ⟨q, q ▸ Wd.rm _ _⟩) hcca
                refine z_top (congrArg zI he34) ?_
                clear he34
                refine z_iconst C0 dX5_readText_97 ?_
                refine z_iadd C0 dX5_readText_98 ?_
                refine zp_3_3 C0 Wd zN375 zK375 (by have q0 := hz33.1; have p0 := hz33.2; exact zR_mk (by omega) (by omega)) zk_292 dX5_readText_99 (fun H locs Wd => ?_)
                refine z_aload_n C0 hl 2 rfl dX5_readText_102 ?_
                refine zg_3_5 C0 Wd zN375 zK375 zk_296 dX5_readText_103 ?_
                obtain ⟨he36, hz35⟩ : ((zu zMr11 375 3 ((k14 : Int) + 1)) 375 5) = (zps (zEn T n (zAt T n k14))) ∧ zR (zps (zEn T n (zAt T n k14))) := (fun q => ⟨q, q ▸ Wd.rm _ _⟩) ((zu_ne (by omega)).trans hDp)
                refine z_top (congrArg zI he36) ?_
                clear he36
                refine z_iconst C0 dX5_readText_106 ?_
                refine z_iadd C0 dX5_readText_107 ?_
                refine z_istore_n C0 hl [(1, .int (zI ((zps (zEn T n (zAt T n k14))) + 1))), (2, .int (zI 0)), (3, .int (zI (zb (0 ≤ (zEn T n (zAt T n k14)))))), (0, .ref (ad 375))] (by decide) rfl dX5_readText_108 (fun ls hl => ?_)
                refine z_goto C0 (tgt := 14) dX5_readText_109 (by decide) ?_
                exact ih14 (k14 + 1) (by omega) (zu zMr11 375 3 ((k14 : Int) + 1)) zFr11 ((zps (zEn T n (zAt T n k14))) + 1) 0 (zu_same _ _ _ _) (((zu_ne (by omega)).trans hCa.2.1)) (fun i a1 => ⟨((zu_row (by omega)).trans (hfa i a1).1), (hfa i a1).2⟩) (fun i a1 a2 => ⟨(hka i a1 a2).1, fun j j0 j1 => ((zu_ne (by omega)).trans ((hka i a1 a2).2 j j0 j1))⟩) (Or.inr ⟨rfl, k14, rfl, hgo, (fun z => hz9 ⟨by omega, by rw [zps_nn (by omega)]; exact z.2.1, by rw [zps_nn (by omega)]; exact z.2.2⟩), (((zu_ne (by omega)).trans hera).trans (if_pos (by have e9 := zps_nn (show 0 ≤ (zEn T n (zAt T n k14)) by omega); omega)).symm)⟩) _ _ _ Wd (lv_sub hl [3, 0, 1] rfl)
              · skip
                refine z_aload_n C0 hl 2 rfl dX5_readText_84 ?_
                refine z_aload_n C0 hl 2 rfl dX5_readText_85 ?_
                refine zg_3_5 C0 Wd zN375 zK375 zk_296 dX5_readText_86 ?_
                obtain ⟨he38, hz37⟩ : (zMr11 375 5) = (zps (zEn T n (zAt T n k14))) ∧ zR (zps (zEn T n (zAt T n k14))) := (fun q => ⟨q, q ▸ Wd.rm _ _⟩) hDp
                refine z_top (congrArg zI he38) ?_
                clear he38
                refine zp_3_4 C0 Wd zN375 zK375 hz37 zk_294 dX5_readText_89 (fun H locs Wd => ?_)
                refine z_aload_n C0 hl 2 rfl dX5_readText_92 ?_
                refine z_dup C0 rfl dX5_readText_93 ?_
                refine zg_3_3 C0 Wd zN375 zK375 zk_292 dX5_readText_94 ?_
                obtain ⟨he40, hz39⟩ : ((zu zMr11 375 4 (zps (zEn T n (zAt T n k14)))) 375 3) = (k14 : Int) ∧ zR (k14 : Int) := (fun q => ⟨q, q ▸ Wd.rm _ _⟩) ((zu_ne (by omega)).trans hcca)
                refine z_top (congrArg zI he40) ?_
                clear he40
                refine z_iconst C0 dX5_readText_97 ?_
                refine z_iadd C0 dX5_readText_98 ?_
                refine zp_3_3 C0 Wd zN375 zK375 (by have q0 := hz39.1; have p0 := hz39.2; exact zR_mk (by omega) (by omega)) zk_292 dX5_readText_99 (fun H locs Wd => ?_)
                refine z_aload_n C0 hl 2 rfl dX5_readText_102 ?_
                refine zg_3_5 C0 Wd zN375 zK375 zk_296 dX5_readText_103 ?_
                obtain ⟨he42, hz41⟩ : ((zu (zu zMr11 375 4 (zps (zEn T n (zAt T n k14)))) 375 3 ((k14 : Int) + 1)) 375 5) = (zps (zEn T n (zAt T n k14))) ∧ zR (zps (zEn T n (zAt T n k14))) := (fun q => ⟨q, q ▸ Wd.rm _ _⟩) ((zu_ne (by omega)).trans ((zu_ne (by omega)).trans hDp))
                refine z_top (congrArg zI he42) ?_
                clear he42
                refine z_iconst C0 dX5_readText_106 ?_
                refine z_iadd C0 dX5_readText_107 ?_
                refine z_istore_n C0 hl [(1, .int (zI ((zps (zEn T n (zAt T n k14))) + 1))), (2, .int (zI 0)), (3, .int (zI (zb (0 ≤ (zEn T n (zAt T n k14)))))), (0, .ref (ad 375))] (by decide) rfl dX5_readText_108 (fun ls hl => ?_)
                refine z_goto C0 (tgt := 14) dX5_readText_109 (by decide) ?_
                exact ih14 (k14 + 1) (by omega) (zu (zu zMr11 375 4 (zps (zEn T n (zAt T n k14)))) 375 3 ((k14 : Int) + 1)) zFr11 ((zps (zEn T n (zAt T n k14))) + 1) 0 (zu_same _ _ _ _) (((zu_ne (by omega)).trans ((zu_ne (by omega)).trans hCa.2.1))) (fun i a1 => ⟨((zu_row (by omega)).trans ((zu_row (by omega)).trans (hfa i a1).1)), (hfa i a1).2⟩) (fun i a1 a2 => ⟨(hka i a1 a2).1, fun j j0 j1 => ((zu_ne (by omega)).trans ((zu_ne (by omega)).trans ((hka i a1 a2).2 j j0 j1)))⟩) (Or.inr ⟨rfl, k14, rfl, hgo, (fun z => hz9 ⟨by omega, by rw [zps_nn (by omega)]; exact z.2.1, by rw [zps_nn (by omega)]; exact z.2.2⟩), ((zu_ne (by omega)).trans ((zu_same _ _ _ _).trans (if_neg (fun z => by have e9 := zps_nn (show 0 ≤ (zEn T n (zAt T n k14)) by omega); omega)).symm))⟩) _ _ _ Wd (lv_sub hl [3, 0, 1] rfl)
            · skip
              have hz9 := c25
              refine z_iconst C0 dX5_readText_59 ?_
              refine z_goto C0 (tgt := 64) dX5_readText_60 (by decide) ?_
              refine z_istore_n C0 hl [(2, .int (zI 1)), (3, .int (zI (zb (0 ≤ (zEn T n (zAt T n k14)))))), (0, .ref (ad 375)), (1, .int (zI v1))] (by decide) rfl dX5_readText_64 (fun ls hl => ?_)
              refine z_iload_n C0 hl 1 rfl dX5_readText_65 ?_
              refine z_if_eq_b C0 (tgt := 84) dX5_readText_66 (by decide) (fun c43 => absurd c43 (fun z => z c13)) (fun c43 => ?_)
              refine z_iload_n C0 hl 0 rfl dX5_readText_69 ?_
              refine z_if_ne C0 (tgt := 92) (zR_mk (by decide) (by decide)) dX5_readText_70 (by decide) (fun _ => ?_) (fun h => absurd h (by decide))
              refine z_aload_n C0 hl 2 rfl dX5_readText_92 ?_
              refine z_dup C0 rfl dX5_readText_93 ?_
              refine zg_3_3 C0 Wd zN375 zK375 zk_292 dX5_readText_94 ?_
              obtain ⟨he46, hz45⟩ : (zMr11 375 3) = (k14 : Int) ∧ zR (k14 : Int) := (fun q => ⟨q, q ▸ Wd.rm _ _⟩) hcca
              refine z_top (congrArg zI he46) ?_
              clear he46
              refine z_iconst C0 dX5_readText_97 ?_
              refine z_iadd C0 dX5_readText_98 ?_
              refine zp_3_3 C0 Wd zN375 zK375 (by have q0 := hz45.1; have p0 := hz45.2; exact zR_mk (by omega) (by omega)) zk_292 dX5_readText_99 (fun H locs Wd => ?_)
              refine z_aload_n C0 hl 2 rfl dX5_readText_102 ?_
              refine zg_3_5 C0 Wd zN375 zK375 zk_296 dX5_readText_103 ?_
              obtain ⟨he48, hz47⟩ : ((zu zMr11 375 3 ((k14 : Int) + 1)) 375 5) = (zps (zEn T n (zAt T n k14))) ∧ zR (zps (zEn T n (zAt T n k14))) := (fun q => ⟨q, q ▸ Wd.rm _ _⟩) ((zu_ne (by omega)).trans hDp)
              refine z_top (congrArg zI he48) ?_
              clear he48
              refine z_iconst C0 dX5_readText_106 ?_
              refine z_iadd C0 dX5_readText_107 ?_
              refine z_istore_n C0 hl [(1, .int (zI ((zps (zEn T n (zAt T n k14))) + 1))), (2, .int (zI 1)), (3, .int (zI (zb (0 ≤ (zEn T n (zAt T n k14)))))), (0, .ref (ad 375))] (by decide) rfl dX5_readText_108 (fun ls hl => ?_)
              refine z_goto C0 (tgt := 14) dX5_readText_109 (by decide) ?_
              exact ih14 (k14 + 1) (by omega) (zu zMr11 375 3 ((k14 : Int) + 1)) zFr11 ((zps (zEn T n (zAt T n k14))) + 1) 1 (zu_same _ _ _ _) (((zu_ne (by omega)).trans hCa.2.1)) (fun i a1 => ⟨((zu_row (by omega)).trans (hfa i a1).1), (hfa i a1).2⟩) (fun i a1 a2 => ⟨(hka i a1 a2).1, fun j j0 j1 => ((zu_ne (by omega)).trans ((hka i a1 a2).2 j j0 j1))⟩) (Or.inl ⟨rfl, (by show _ = (zEn T n (zAt T n k14)) + 1; rw [zps_nn (by omega)]), (fun i a1 => by
                  by_cases e9 : i = k14
                  · rw [e9]; refine ⟨by omega, ?_, ?_⟩
                    · have := hz9.2.1; rw [zps_nn (by omega)] at this; exact this
                    · have := hz9.2.2; rw [zps_nn (by omega)] at this; exact this
                  · exact hgo i (by omega)), ((zu_ne (by omega)).trans hera)⟩) _ _ _ Wd (lv_sub hl [3, 0, 1] rfl)
  exact lp14 9 0 (by omega) (zu (zu zM0 375 3 0) 375 4 (-1)) zF0 0 1 ((zu_ne (by omega)).trans (zu_same _ _ _ _)) ((zu_ne (by omega)).trans ((zu_ne (by omega)).trans hC.2.1)) (fun i a1 => ⟨(zu_row (by omega)).trans (zu_row (by omega)), rfl⟩) (fun i a1 => absurd a1 (Nat.not_lt_zero i)) (Or.inl ⟨rfl, rfl, fun i a1 => absurd a1 (Nat.not_lt_zero i), zu_same _ _ _ _⟩) _ _ _ Wd (lv_sub hl [2, 1, 0] rfl)
