/-! the model executes -/
/-- the i-th command of the text, done -/
def zdX (T : Int → Int) (n : Int) (i : Nat) (V : Int → Int) : zO := zdC (zkn T n (zAt T n i)) (zka T n (zAt T n i) 0) (zka T n (zAt T n i) 1) (zka T n (zAt T n i) 2) V
/-- the row after i commands -/
def zVi (T : Int → Int) (n : Int) (V : Int → Int) : Nat → (Int → Int)
  | 0 => V
  | i + 1 => (zdX T n i (zVi T n V i)).2.2
def zok (T : Int → Int) (n : Int) (V : Int → Int) (i : Nat) : Prop := (zdX T n i (zVi T n V i)).1 = 0
theorem zG_C {t k a b c : Int} {V : Int → Int} (hG : zGd t V) (ht : 0 ≤ t) : zGd (t + 680) (zdC k a b c V).2.2 := by
  have up : ∀ t' W', zGd t' W' → t' ≤ t + 680 → zGd (t + 680) W' := fun t' W' h q => ⟨zIV_mono h.1 q, h.2⟩
  unfold zdC
  split
  · exact up _ _ (zG_AT hG) (by omega)
  · split
    · exact up _ _ (zG_AH hG ht) (by omega)
    · split
      · exact up _ _ (zG_Say hG) (by omega)
      · split
        · exact up _ _ (zG_Li hG) (by omega)
        · split
          · exact up _ _ (zG_Li hG) (by omega)
          · split
            · exact up _ _ (zG_Mv hG) (by omega)
            · split
              · by_cases h : 1 ≤ a ∧ a ≤ 40
                · exact up _ _ ((zG_PT hG (by omega)).resolve_right (fun z => z h)) (by omega)
                · unfold zdPT
                  rw [if_pos h]
                  exact up _ _ hG (by omega)
              · exact up _ _ (zG_AC hG) (by omega)
theorem zG_Vi {T : Int → Int} {n t : Int} {V : Int → Int} (hG : zGd t V) (ht : 0 ≤ t) (i : Nat) : zGd (t + 680 * (i : Int)) (zVi T n V i) := by
  induction i with
  | zero => show zGd (t + 680 * 0) V; rw [show t + 680 * 0 = t by omega]; exact hG
  | succ i ih =>
    have h := zG_C (k := zkn T n (zAt T n i)) (a := zka T n (zAt T n i) 0) (b := zka T n (zAt T n i) 1) (c := zka T n (zAt T n i) 2) ih (by omega)
    rw [show t + 680 * (i : Int) + 680 = t + 680 * ((i + 1 : Nat) : Int) by omega] at h
    exact h
theorem zkm_bd {k : Int} : 0 ≤ zkm k ∧ zkm k ≤ 3 := by
  unfold zkm
  repeat' split
  all_goals omega
/-- the k-th command stands in the model's row -/
def zMk (T : Int → Int) (n : Int) (k : Nat) (M : zMem) : Prop := M 407 (4 * (k : Int)) = zkc (zkn T n (zAt T n k)) ∧ (0 ≤ zEn T n (zAt T n k) → ∀ j, 0 ≤ j → j < zkm (zkn T n (zAt T n k)) → M 407 (4 * (k : Int) + 1 + j) = zka T n (zAt T n k) j)
theorem zdX_is {T : Int → Int} {n : Int} {k : Nat} {M : zMem} {V : Int → Int} (h : zMk T n k M) (hq : 0 ≤ zEn T n (zAt T n k)) : zdC (zkn T n (zAt T n k)) (M 407 (4 * (k : Int) + 1)) (M 407 (4 * (k : Int) + 2)) (M 407 (4 * (k : Int) + 3)) V = zdX T n k V := by
  have b := zkn_bd (T := T) (n := n) (a := zAt T n k)
  have e := zdC_args (k := zkn T n (zAt T n k)) (r := fun j => M 407 (4 * (k : Int) + 1 + j)) (r' := fun j => zka T n (zAt T n k) j) (V := V) b.1 b.2 (fun j j0 j1 => h.2 hq j j0 j1)
  have e1 : (4 * (k : Int) + 1 + 0) = 4 * (k : Int) + 1 := by omega
  have e2 : (4 * (k : Int) + 1 + 1) = 4 * (k : Int) + 2 := by omega
  have e3 : (4 * (k : Int) + 1 + 2) = 4 * (k : Int) + 3 := by omega
  simp only [e1, e2, e3] at e
  exact e
theorem zpush_row {M : zMem} {i : Int} (h : i ≠ 398) (h2 : i ≠ 403) (j : Int) : zpush M i j = M i j := by
  unfold zpush
  split
  · rw [zu_ne (by omega), zcpy_ne (by omega), zu_ne (by omega), zcpy_ne (by omega)]
  · rw [zu_ne (by omega), zcpy_ne (by omega)]
theorem zpush_398 {M : zMem} {j : Int} (h : j ≠ 6) : zpush M 398 j = M 398 j := by
  unfold zpush
  split
  · rw [zu_ne (by omega), zcpy_ne (by omega), zu_ne (by omega), zcpy_ne (by omega)]
  · rw [zu_ne (by omega), zcpy_ne (by omega)]
/-- what the model's execute brings, of a text of m + 1 commands -/
def zXM (T : Int → Int) (n : Int) (V : Int → Int) (m : Nat) (M : zMem) (r : Int) (M' : zMem) : Prop :=
  ((∀ i, i < m → zgo T n i) ∧ ¬ zgo T n m) ∧
  ((∀ i, i ≠ 398 → i ≠ 399 → i ≠ 400 → i ≠ 403 → i ≠ 404 → i ≠ 407 → M' i = M i) ∧ (∀ j, j ≠ 6 → j ≠ 8 → j ≠ 12 → j ≠ 13 → j ≠ 14 → j ≠ 15 → j ≠ 16 → j ≠ 18 → M' 398 j = M 398 j) ∧ M' 398 12 = 0) ∧
  ((zer T n m ≠ -1 ∧ r = 0 ∧ M' 398 8 = 1 ∧ M' 398 15 = zer T n m ∧ M' 398 16 = M 398 16 ∧ M' 398 6 = M 398 6 ∧ M' 399 = V ∧ M' 403 = M 403) ∨
   (zer T n m = -1 ∧ ∃ f : Nat, f ≤ m ∧ (∀ i, i < f → zok T n V i) ∧ ¬ zok T n V f ∧ r = 0 ∧ M' 398 8 = 2 ∧ M' 398 15 = M 398 15 ∧ M' 398 16 = (f : Int) ∧ M' 398 6 = M 398 6 ∧ M' 399 = V ∧ M' 403 = M 403) ∨
   (zer T n m = -1 ∧ (∀ i, i ≤ m → zok T n V i) ∧ r = (m : Int) + 1 ∧ M' 398 8 = 0 ∧ M' 398 15 = M 398 15 ∧ M' 398 16 = M 398 16 ∧ ∃ M1 : zMem, M' = zpush M1 ∧ M1 399 = zVi T n V (m + 1) ∧ M1 400 = V ∧ M1 403 = M 403 ∧ M1 398 6 = M 398 6))

theorem kv_X12_execute : zKV yX12_execute cX12_execute 2 (some .int) "DrumWarrenModel" 0 := ⟨zk_2011, zk_2009, zk_2010, zk_80, by decide, by decide, by decide +kernel⟩
set_option maxHeartbeats 4000000 in
set_option maxRecDepth 100000 in
theorem ct_X12_execute (l : Launch) (g : zG) (ad : Int → Nat) (zM0 zF0 : zMem) (T V : Int → Int) (n zt : Int) (hT0 : zM0 406 = T) (hn0 : zM0 398 12 = n) (hn1 : 0 ≤ n ∧ n ≤ 60) (hT : ∀ j, 0 ≤ T j ∧ T j < 65536) (hV9 : zM0 399 = V) (hG : zGd zt V) (ht : 0 ≤ zt ∧ zt ≤ 70000000) (h6 : 0 ≤ zM0 398 6 ∧ zM0 398 6 ≤ 8) : zMt l yX12_execute cX12_execute 2 (some .int) 10 0 0 g 410 ad [.ref (ad 398)] zM0 zF0 (zPi (fun r M' F' => ∃ m : Nat, zXM T n V m zM0 r M' ∧ zF0 = F')) := by
  refine zMt.of "DrumWarrenModel" rfl (by decide +kernel) (Nat.le_of_ble_eq_true rfl) (fun {p e s m args below meth c ls} C0 Wd hl hret hlk hin => ?_)
  have hl : lv_has ls 2 [(0, .ref (ad 398))] := hl
  refine z_aload_n C0 hl 0 rfl dX12_execute_0 ?_
  refine z_iconst C0 dX12_execute_1 ?_
  refine zp_9_13 C0 Wd zN398 zK398 (zR_mk (by decide) (by decide)) zk_1625 dX12_execute_2 (fun H locs Wd => ?_)
  refine z_aload_n C0 hl 0 rfl dX12_execute_5 ?_
  refine z_iconst C0 dX12_execute_6 ?_
  refine zp_9_14 C0 Wd zN398 zK398 (by omega) zk_1626 dX12_execute_7 (fun H locs Wd => ?_)
  refine z_aload_n C0 hl 0 rfl dX12_execute_10 ?_
  refine z_iconst C0 dX12_execute_11 ?_
  refine zp_9_18 C0 Wd zN398 zK398 (zR_mk (by decide) (by decide)) zk_1630 dX12_execute_12 (fun H locs Wd => ?_)
  have hps0 : zPS T n 0 (zu (zu (zu zM0 398 13 0) 398 14 0) 398 18 0) := ⟨(zu_row (by omega)).trans ((zu_row (by omega)).trans ((zu_row (by omega)).trans hT0)), (zu_ne (by omega)).trans ((zu_ne (by omega)).trans ((zu_ne (by omega)).trans hn0)), hn1, (zu_ne (by omega)).trans ((zu_ne (by omega)).trans (zu_same _ _ _ _)), (zu_ne (by omega)).trans (zu_same _ _ _ _), by decide, hn1.1⟩
  refine z_aload_n C0 hl 0 rfl dX12_execute_15 ?_
  refine z_invVv (As := []) (rest := []) C0 Wd (ct_X12_readCommand l g ad (zu (zu (zu zM0 398 13 0) 398 14 0) 398 18 0) zF0 T n 0 hps0 hT (by omega) (by show 0 ≤ 0 ∧ 0 < 60; first | omega | assumption)) kv_X12_readCommand zN398 (zE_9 zK398) rfl zk_2012 rfl hl.1 rfl (Nat.le_of_ble_eq_true rfl) (by decide) (by decide) dX12_execute_16 (fun zMr1 zFr1 H locs hp Wd => ?_)
  obtain ⟨⟨hRp, hR18, hRc, hRa, hRf, hR8, hR7⟩, rfl⟩ := hp
  have hps : zPS T n (zEn T n (zAt T n 0)) zMr1 := hRp
  have aft19 : ∀ (k19 : Nat) (hk19 : (k19 : Int) ≤ 9) (M2 : zMem) (hps : zPS T n (zEn T n (zAt T n k19)) M2) (hc18 : M2 398 18 = (k19 : Int) + 1) (hgo : ∀ i, i < k19 → zgo T n i) (hfr : ∀ i, i ≠ 398 → i ≠ 407 → M2 i = zM0 i) (hf8 : ∀ j, j ≠ 13 → j ≠ 14 → j ≠ 18 → M2 398 j = zM0 398 j) (hmk : ∀ i, i ≤ k19 → zMk T n i M2) (hx19 : (zEn T n (zAt T n k19) < 0 ∨ ¬ zbh T n (zEn T n (zAt T n k19)) = 59)) (H : Heap) (locs : List Loc) (ls : Array Slot) (Wd : zW g (zA 410 ad s.heap.size) s.heap 410 ad M2 zF0 H locs) (hl : lv_has ls 2 [(0, .ref (ad 398))]), W p l e (zrm 10 0 0) s m args below meth c H locs 0 0 (zMQ below g 410 ad (zPi (fun r M' F' => ∃ m : Nat, zXM T n V m zM0 r M' ∧ zF0 = F')) args s 0 0) (F0 m 53 ls []) := by
    intro k19 hk19 M2 hps hc18 hgo hfr hf8 hmk hx19 H locs ls Wd hl
    have hng : ¬ zgo T n k19 := fun z => by
        have z1 := z.1
        have z2 := (zbh_is (T := T) (n := n) (p := (zEn T n (zAt T n k19))) (c := 59) (by decide)).mpr ⟨z.2.1, z.2.2⟩
        omega
    have hzq := hps.2.2.2.2.2
    refine z_aload_n C0 hl 0 rfl dX12_execute_53 ?_
    refine z_aload_n C0 hl 0 rfl dX12_execute_54 ?_
    refine zg_9_14 C0 Wd zN398 zK398 zk_1626 dX12_execute_55 ?_
    obtain ⟨he4, hz3⟩ : (M2 398 14) = (zb ((zEn T n (zAt T n k19)) < 0)) ∧ zR (zb ((zEn T n (zAt T n k19)) < 0)) := (fun q => ⟨q, q ▸ Wd.rm _ _⟩) hps.2.2.2.2.1
    refine z_top (congrArg zI he4) ?_
    clear he4
    refine z_if_ne_b C0 (tgt := 72) dX12_execute_58 (by decide) (fun c5 => ?_) (fun c5 => ?_)
    · skip
      refine z_iconst C0 dX12_execute_72 ?_
      refine z_goto C0 (tgt := 77) dX12_execute_73 (by decide) ?_
      refine zp_9_14 C0 Wd zN398 zK398 (by omega) zk_1626 dX12_execute_77 (fun H locs Wd => ?_)
      have hze : zer T n k19 = zps (zEn T n (zAt T n k19)) := if_neg (fun z => absurd z.1 (by omega))
      refine z_aload_n C0 hl 0 rfl dX12_execute_80 ?_
      refine z_aload_n C0 hl 0 rfl dX12_execute_81 ?_
      refine zg_9_14 C0 Wd zN398 zK398 zk_1626 dX12_execute_82 ?_
      obtain ⟨he8, hz6⟩ : ((zu M2 398 14 1) 398 14) = 1 ∧ zR 1 := (fun q => ⟨q, q ▸ Wd.rm _ _⟩) (zu_same _ _ _ _)
      refine z_top (congrArg zI he8) ?_
      clear he8
      refine z_if_eq C0 (tgt := 95) (zR_mk (by decide) (by decide)) dX12_execute_85 (by decide) (fun h => absurd h (by decide)) (fun _ => ?_)
      refine z_aload_n C0 hl 0 rfl dX12_execute_88 ?_
      refine zg_9_13 C0 Wd zN398 zK398 zk_1625 dX12_execute_89 ?_
      obtain ⟨he11, hz10⟩ : ((zu M2 398 14 1) 398 13) = (zps (zEn T n (zAt T n k19))) ∧ zR (zps (zEn T n (zAt T n k19))) := (fun q => ⟨q, q ▸ Wd.rm _ _⟩) ((zu_ne (by omega)).trans hps.2.2.2.1)
      refine z_top (congrArg zI he11) ?_
      clear he11
      refine z_goto C0 (tgt := 99) dX12_execute_92 (by decide) ?_
      refine zp_9_15 C0 Wd zN398 zK398 hz10 zk_1627 dX12_execute_99 (fun H locs Wd => ?_)
      refine z_aload_n C0 hl 0 rfl dX12_execute_102 ?_
      refine z_iconst C0 dX12_execute_103 ?_
      refine zp_9_12 C0 Wd zN398 zK398 (zR_mk (by decide) (by decide)) zk_1624 dX12_execute_104 (fun H locs Wd => ?_)
      refine z_aload_n C0 hl 0 rfl dX12_execute_107 ?_
      refine zg_9_14 C0 Wd zN398 zK398 zk_1626 dX12_execute_108 ?_
      obtain ⟨he14, hz12⟩ : ((zu (zu (zu M2 398 14 1) 398 15 (zps (zEn T n (zAt T n k19)))) 398 12 0) 398 14) = 1 ∧ zR 1 := (fun q => ⟨q, q ▸ Wd.rm _ _⟩) ((zu_ne (by omega)).trans ((zu_ne (by omega)).trans (zu_same _ _ _ _)))
      refine z_top (congrArg zI he14) ?_
      clear he14
      refine z_if_eq C0 (tgt := 120) (zR_mk (by decide) (by decide)) dX12_execute_111 (by decide) (fun h => absurd h (by decide)) (fun _ => ?_)
      refine z_aload_n C0 hl 0 rfl dX12_execute_114 ?_
      refine z_iconst C0 dX12_execute_115 ?_
      refine z_invVi (As := [.int (zI 1)]) (rest := []) C0 Wd (ct_X12_fails l g ad (zu (zu (zu M2 398 14 1) 398 15 (zps (zEn T n (zAt T n k19)))) 398 12 0) zF0 1 (zR_mk (by decide) (by decide))) kv_X12_fails zN398 (zE_9 zK398) rfl zk_1687 rfl hl.1 rfl (Nat.le_of_ble_eq_true rfl) (by decide) (by decide) dX12_execute_116 (fun r16 zMr16 zFr16 H locs hrr16 hp Wd => ?_)
      obtain ⟨rfl, rfl, rfl⟩ := hp
      have hXM : zXM T n V k19 zM0 0 (zu (zu (zu (zu M2 398 14 1) 398 15 (zps (zEn T n (zAt T n k19)))) 398 12 0) 398 8 1) := ⟨⟨hgo, hng⟩, ⟨fun i a1 a2 a3 a4 a5 a6 => (zu_row a1).trans ((zu_row a1).trans ((zu_row a1).trans ((zu_row a1).trans (hfr i a1 a6)))), fun j a1 a2 a3 a4 a5 a6 a7 a8 => (zu_ne (by omega)).trans ((zu_ne (by omega)).trans ((zu_ne (by omega)).trans ((zu_ne (by omega)).trans (hf8 j a4 a5 a8)))), ((zu_ne (by omega)).trans (zu_same _ _ _ _))⟩, Or.inl ⟨by rw [hze]; omega, rfl, (zu_same _ _ _ _), (((zu_ne (by omega)).trans ((zu_ne (by omega)).trans (zu_same _ _ _ _)))).trans hze.symm, (((zu_ne (by omega)).trans ((zu_ne (by omega)).trans ((zu_ne (by omega)).trans (zu_ne (by omega)))))).trans (hf8 16 (by decide) (by decide) (by decide)), (((zu_ne (by omega)).trans ((zu_ne (by omega)).trans ((zu_ne (by omega)).trans (zu_ne (by omega)))))).trans (hf8 6 (by decide) (by decide) (by decide)), (zu_row (by decide)).trans ((zu_row (by decide)).trans ((zu_row (by decide)).trans ((zu_row (by decide)).trans ((hfr 399 (by decide) (by decide)).trans hV9)))), (zu_row (by decide)).trans ((zu_row (by decide)).trans ((zu_row (by decide)).trans ((zu_row (by decide)).trans (hfr 403 (by decide) (by decide)))))⟩⟩
      exact z_iret C0 Wd hret hlk (zR_mk (by decide) (by decide)) ⟨k19, hXM, rfl⟩ dX12_execute_119
    · skip
      refine z_aload_n C0 hl 0 rfl dX12_execute_61 ?_
      refine zg_9_13 C0 Wd zN398 zK398 zk_1625 dX12_execute_62 ?_
      obtain ⟨he19, hz18⟩ : (M2 398 13) = (zps (zEn T n (zAt T n k19))) ∧ zR (zps (zEn T n (zAt T n k19))) := (fun q => ⟨q, q ▸ Wd.rm _ _⟩) hps.2.2.2.1
      refine z_top (congrArg zI he19) ?_
      clear he19
      refine z_aload_n C0 hl 0 rfl dX12_execute_65 ?_
      refine zg_9_12 C0 Wd zN398 zK398 zk_1624 dX12_execute_66 ?_
      obtain ⟨he21, hz20⟩ : (M2 398 12) = n ∧ zR n := (fun q => ⟨q, q ▸ Wd.rm _ _⟩) hps.2.1
      refine z_top (congrArg zI he21) ?_
      clear he21
      refine z_icmp_ge C0 (tgt := 76) hz18 hz20 dX12_execute_69 (by decide) (fun c22 => ?_) (fun c22 => ?_)
      · skip
        refine z_iconst C0 dX12_execute_76 ?_
        refine zp_9_14 C0 Wd zN398 zK398 (by omega) zk_1626 dX12_execute_77 (fun H locs Wd => ?_)
        have hze : zer T n k19 = -1 := if_pos ⟨by omega, by have := zps_nn (show 0 ≤ (zEn T n (zAt T n k19)) by omega); omega⟩
        refine z_aload_n C0 hl 0 rfl dX12_execute_80 ?_
        refine z_aload_n C0 hl 0 rfl dX12_execute_81 ?_
        refine zg_9_14 C0 Wd zN398 zK398 zk_1626 dX12_execute_82 ?_
        obtain ⟨he25, hz23⟩ : ((zu M2 398 14 0) 398 14) = 0 ∧ zR 0 := (fun q => ⟨q, q ▸ Wd.rm _ _⟩) (zu_same _ _ _ _)
        refine z_top (congrArg zI he25) ?_
        clear he25
        refine z_if_eq C0 (tgt := 95) (zR_mk (by decide) (by decide)) dX12_execute_85 (by decide) (fun _ => ?_) (fun h => absurd h (by decide))
        refine z_aload_n C0 hl 0 rfl dX12_execute_95 ?_
        refine zg_9_15 C0 Wd zN398 zK398 zk_1627 dX12_execute_96 ?_
        obtain ⟨he28, hz27⟩ : ((zu M2 398 14 0) 398 15) = (zM0 398 15) ∧ zR (zM0 398 15) := (fun q => ⟨q, q ▸ Wd.rm _ _⟩) ((zu_ne (by omega)).trans (hf8 15 (by decide) (by decide) (by decide)))
        refine z_top (congrArg zI he28) ?_
        clear he28
        refine zp_9_15 C0 Wd zN398 zK398 hz27 zk_1627 dX12_execute_99 (fun H locs Wd => ?_)
        refine z_aload_n C0 hl 0 rfl dX12_execute_102 ?_
        refine z_iconst C0 dX12_execute_103 ?_
        refine zp_9_12 C0 Wd zN398 zK398 (zR_mk (by decide) (by decide)) zk_1624 dX12_execute_104 (fun H locs Wd => ?_)
        refine z_aload_n C0 hl 0 rfl dX12_execute_107 ?_
        refine zg_9_14 C0 Wd zN398 zK398 zk_1626 dX12_execute_108 ?_
        obtain ⟨he31, hz29⟩ : ((zu (zu (zu M2 398 14 0) 398 15 (zM0 398 15)) 398 12 0) 398 14) = 0 ∧ zR 0 := (fun q => ⟨q, q ▸ Wd.rm _ _⟩) ((zu_ne (by omega)).trans ((zu_ne (by omega)).trans (zu_same _ _ _ _)))
        refine z_top (congrArg zI he31) ?_
        clear he31
        refine z_if_eq C0 (tgt := 120) (zR_mk (by decide) (by decide)) dX12_execute_111 (by decide) (fun _ => ?_) (fun h => absurd h (by decide))
        refine z_aload_n C0 hl 0 rfl dX12_execute_120 ?_
        refine z_invVv (As := []) (rest := []) C0 Wd (ct_X12_keep l g ad (zu (zu (zu M2 398 14 0) 398 15 (zM0 398 15)) 398 12 0) zF0) kv_X12_keep zN398 (zE_9 zK398) rfl zk_1678 rfl hl.1 rfl (Nat.le_of_ble_eq_true rfl) (by decide) (by decide) dX12_execute_121 (fun zMr33 zFr33 H locs hp Wd => ?_)
        obtain ⟨rfl, rfl⟩ := hp
        replace Wd : zW g _ s.heap 410 ad (zrow (zu (zu (zu (zu M2 398 14 0) 398 15 (zM0 398 15)) 398 12 0) 398 8 0) 400 (M2 399)) _ H locs := Wd
        obtain ⟨Mk, hMk⟩ : ∃ Mk, Mk = (zrow (zu (zu (zu (zu M2 398 14 0) 398 15 (zM0 398 15)) 398 12 0) 398 8 0) 400 (M2 399)) := ⟨_, rfl⟩
        have h399 : Mk 399 = V := by rw [hMk]; exact (zrow_ne (by decide)).trans ((zu_row (by decide)).trans ((zu_row (by decide)).trans ((zu_row (by decide)).trans ((zu_row (by decide)).trans ((hfr 399 (by decide) (by decide)).trans hV9)))))
        have h400 : Mk 400 = V := by rw [hMk]; exact (zrow_same _ _ _).trans ((hfr 399 (by decide) (by decide)).trans hV9)
        have h407 : Mk 407 = M2 407 := by rw [hMk]; exact (zrow_ne (by decide)).trans ((zu_row (by decide)).trans ((zu_row (by decide)).trans ((zu_row (by decide)).trans ((zu_row (by decide)).trans (rfl)))))
        have hkf : ∀ i, i ≠ 398 → i ≠ 400 → Mk i = M2 i := fun i a1 a2 => by rw [hMk]; exact (zrow_ne a2).trans ((zu_row a1).trans ((zu_row a1).trans ((zu_row a1).trans ((zu_row a1).trans (rfl)))))
        have h18 : Mk 398 18 = (k19 : Int) + 1 := by rw [hMk]; exact ((congrFun (zrow_ne (by decide)) _).trans ((zu_ne (by omega)).trans ((zu_ne (by omega)).trans ((zu_ne (by omega)).trans (zu_ne (by omega)))))).trans hc18
        have h8 : Mk 398 8 = 0 := by rw [hMk]; exact ((congrFun (zrow_ne (by decide)) _).trans (zu_same _ _ _ _))
        have h12 : Mk 398 12 = 0 := by rw [hMk]; exact ((congrFun (zrow_ne (by decide)) _).trans ((zu_ne (by omega)).trans (zu_same _ _ _ _)))
        have hk8 : ∀ j, j ≠ 8 → j ≠ 12 → j ≠ 14 → j ≠ 15 → Mk 398 j = M2 398 j := fun j a1 a2 a3 a4 => by rw [hMk]; exact (congrFun (zrow_ne (by decide)) _).trans ((zu_ne (by omega)).trans ((zu_ne (by omega)).trans ((zu_ne (by omega)).trans ((zu_ne (by omega)).trans (rfl)))))
        have h15 : Mk 398 15 = zM0 398 15 := by rw [hMk]; exact ((congrFun (zrow_ne (by decide)) _).trans ((zu_ne (by omega)).trans ((zu_ne (by omega)).trans (zu_same _ _ _ _))))
        rw [← hMk] at Wd
        refine z_iconst C0 dX12_execute_124 ?_
        refine z_istore_n C0 hl [(1, .int (zI 0)), (0, .ref (ad 398))] (by decide) rfl dX12_execute_125 (fun ls hl => ?_)
        have aft126 : ∀ (k126 : Nat) (hk126 : (k126 : Int) ≤ ((k19 : Int) + 1)) (M3 : zMem) (hv3 : M3 399 = zVi T n V k126) (h398 : M3 398 = Mk 398) (hf3 : ∀ i, i ≠ 399 → i ≠ 404 → M3 i = Mk i) (hok : ∀ i, i < k126 → zok T n V i) (hx126 : (k126 : Int) = ((k19 : Int) + 1)) (H : Heap) (locs : List Loc) (ls : Array Slot) (Wd : zW g (zA 410 ad s.heap.size) s.heap 410 ad M3 zF0 H locs) (hl : lv_has ls 2 [(0, .ref (ad 398)), (1, .int (zI (k126 : Int)))]), W p l e (zrm 10 0 0) s m args below meth c H locs 0 0 (zMQ below g 410 ad (zPi (fun r M' F' => ∃ m : Nat, zXM T n V m zM0 r M' ∧ zF0 = F')) args s 0 0) (F0 m 167 ls []) := by
          intro k126 hk126 M3 hv3 h398 hf3 hok hx126 H locs ls Wd hl
          replace hl : lv_has ls 2 [(0, .ref (ad 398))] := lv_sub hl [0] rfl
          have h83 : M3 398 8 = 0 := (congrFun h398 _).trans h8
          have h183 : M3 398 18 = (k19 : Int) + 1 := (congrFun h398 _).trans h18
          refine z_aload_n C0 hl 0 rfl dX12_execute_167 ?_
          refine z_aload_n C0 hl 0 rfl dX12_execute_168 ?_
          refine zg_9_18 C0 Wd zN398 zK398 zk_1630 dX12_execute_169 ?_
          obtain ⟨he36, hz35⟩ : (M3 398 18) = ((k19 : Int) + 1) ∧ zR ((k19 : Int) + 1) := (fun q => ⟨q, q ▸ Wd.rm _ _⟩) h183
          refine z_top (congrArg zI he36) ?_
          clear he36
          refine z_invVi (As := [.int (zI ((k19 : Int) + 1))]) (rest := []) C0 Wd (ct_X12_ends_ok l g ad M3 zF0 ((k19 : Int) + 1) hz35 h83 (by rw [show M3 398 6 = zM0 398 6 from (congrFun h398 _).trans ((hk8 6 (by decide) (by decide) (by decide) (by decide)).trans (hf8 6 (by decide) (by decide) (by decide)))]; exact h6)) kv_X12_ends zN398 (zE_9 zK398) rfl zk_1691 rfl hl.1 rfl (Nat.le_of_ble_eq_true rfl) (by decide) (by decide) dX12_execute_172 (fun r37 zMr37 zFr37 H locs hrr37 hp Wd => ?_)
          obtain ⟨rfl, rfl, rfl⟩ := hp
          have ek9 : k126 = k19 + 1 := by omega
          subst ek9
          have hXM : zXM T n V k19 zM0 ((k19 : Int) + 1) (zpush M3) := ⟨⟨hgo, hng⟩, ⟨fun i a1 a2 a3 a4 a5 a6 => funext fun j => (zpush_row a1 a4 j).trans (congrFun ((hf3 i a2 a5).trans ((hkf i a1 a3).trans (hfr i a1 a6))) j), fun j a1 a2 a3 a4 a5 a6 a7 a8 => (zpush_398 a1).trans ((congrFun h398 _).trans ((hk8 j a2 a3 a5 a6).trans (hf8 j a4 a5 a8))), (zpush_398 (by decide)).trans ((congrFun h398 _).trans h12)⟩, Or.inr (Or.inr ⟨hze, fun i a1 => hok i (by omega), rfl, (zpush_398 (by decide)).trans ((congrFun h398 _).trans h8), (zpush_398 (by decide)).trans ((congrFun h398 _).trans h15), (zpush_398 (by decide)).trans ((congrFun h398 _).trans ((hk8 16 (by decide) (by decide) (by decide) (by decide)).trans (hf8 16 (by decide) (by decide) (by decide)))), M3, rfl, hv3, (hf3 400 (by decide) (by decide)).trans h400, (hf3 403 (by decide) (by decide)).trans ((hkf 403 (by decide) (by decide)).trans (hfr 403 (by decide) (by decide))), (congrFun h398 _).trans ((hk8 6 (by decide) (by decide) (by decide) (by decide)).trans (hf8 6 (by decide) (by decide) (by decide)))⟩)⟩
          exact z_iret C0 Wd hret hlk hrr37 ⟨k19, hXM, rfl⟩ dX12_execute_175
        have lp126 : ∀ (d126 k126 : Nat) (hk126 : (k126 : Int) + d126 = ((k19 : Int) + 1)) (M3 : zMem) (hv3 : M3 399 = zVi T n V k126) (h398 : M3 398 = Mk 398) (hf3 : ∀ i, i ≠ 399 → i ≠ 404 → M3 i = Mk i) (hok : ∀ i, i < k126 → zok T n V i) (H : Heap) (locs : List Loc) (ls : Array Slot) (Wd : zW g (zA 410 ad s.heap.size) s.heap 410 ad M3 zF0 H locs) (hl : lv_has ls 2 [(0, .ref (ad 398)), (1, .int (zI (k126 : Int)))]), W p l e (zrm 10 0 0) s m args below meth c H locs 0 0 (zMQ below g 410 ad (zPi (fun r M' F' => ∃ m : Nat, zXM T n V m zM0 r M' ∧ zF0 = F')) args s 0 0) (F0 m 126 ls []) := by
          intro d126
          induction d126 with
          | zero =>
            intro k126 hk126 M3 hv3 h398 hf3 hok H locs ls Wd hl
            have h83 : M3 398 8 = 0 := (congrFun h398 _).trans h8
            have h183 : M3 398 18 = (k19 : Int) + 1 := (congrFun h398 _).trans h18
            have h407a : M3 407 = M2 407 := (hf3 407 (by decide) (by decide)).trans h407
            have hGi := zG_Vi (T := T) (n := n) hG ht.1 k126
            have hab := zAt_bd hn1.1 k19 hgo
            refine z_iload_n C0 hl 1 rfl dX12_execute_126 ?_
            refine z_aload_n C0 hl 0 rfl dX12_execute_127 ?_
            refine zg_9_18 C0 Wd zN398 zK398 zk_1630 dX12_execute_128 ?_
            obtain ⟨he40, hz39⟩ : (M3 398 18) = ((k19 : Int) + 1) ∧ zR ((k19 : Int) + 1) := (fun q => ⟨q, q ▸ Wd.rm _ _⟩) h183
            refine z_top (congrArg zI he40) ?_
            clear he40
            refine z_icmp_ge C0 (tgt := 167) (zR_mk (by omega) (by omega)) hz39 dX12_execute_131 (by decide) (fun c41 => ?_) (fun c41 => ?_)
            · skip
              first | exact aft126 k126 (by omega) M3 hv3 h398 hf3 hok (by first | assumption | omega) _ _ _ Wd (lv_sub hl [0, 1] rfl) | (exfalso; omega)
            · skip
              exfalso; omega
          | succ d126 ih126 =>
            intro k126 hk126 M3 hv3 h398 hf3 hok H locs ls Wd hl
            have h83 : M3 398 8 = 0 := (congrFun h398 _).trans h8
            have h183 : M3 398 18 = (k19 : Int) + 1 := (congrFun h398 _).trans h18
            have h407a : M3 407 = M2 407 := (hf3 407 (by decide) (by decide)).trans h407
            have hGi := zG_Vi (T := T) (n := n) hG ht.1 k126
            have hab := zAt_bd hn1.1 k19 hgo
            refine z_iload_n C0 hl 1 rfl dX12_execute_126 ?_
            refine z_aload_n C0 hl 0 rfl dX12_execute_127 ?_
            refine zg_9_18 C0 Wd zN398 zK398 zk_1630 dX12_execute_128 ?_
            obtain ⟨he43, hz42⟩ : (M3 398 18) = ((k19 : Int) + 1) ∧ zR ((k19 : Int) + 1) := (fun q => ⟨q, q ▸ Wd.rm _ _⟩) h183
            refine z_top (congrArg zI he43) ?_
            clear he43
            refine z_icmp_ge C0 (tgt := 167) (zR_mk (by omega) (by omega)) hz42 dX12_execute_131 (by decide) (fun c44 => ?_) (fun c44 => ?_)
            · skip
              first | exact aft126 k126 (by omega) M3 hv3 h398 hf3 hok (by first | assumption | omega) _ _ _ Wd (lv_sub hl [0, 1] rfl) | (exfalso; omega)
            · skip
              have hqk : 0 ≤ zEn T n (zAt T n k126) := by
                  by_cases e9 : k126 = k19
                  · rw [e9]; omega
                  · exact (hgo k126 (by omega)).1
              refine z_aload_n C0 hl 0 rfl dX12_execute_134 ?_
              refine z_iload_n C0 hl 1 rfl dX12_execute_135 ?_
              refine z_invVv (As := [.int (zI (k126 : Int))]) (rest := []) C0 Wd (ct_X12_does l g ad M3 zF0 (zt + 680 * (k126 : Int)) (zkn T n (zAt T n k126)) (k126 : Int) (zR_mk (by omega) (by omega)) (by omega) zkn_bd ((congrFun h407a _).trans (hmk k126 (by omega)).1) (by rw [hv3]; exact hGi.1) (by rw [hv3]; exact hGi.2.1) (by omega)) kv_X12_does zN398 (zE_9 zK398) rfl zk_2051 rfl hl.1 rfl (Nat.le_of_ble_eq_true rfl) (by decide) (by decide) dX12_execute_136 (fun zMr45 zFr45 H locs hp Wd => ?_)
              obtain ⟨⟨w9, hD⟩, rfl⟩ := hp
              have hmk9 : zMk T n k126 M3 := ⟨(congrFun h407a _).trans (hmk k126 (by omega)).1, fun q9 j j0 j1 => (congrFun h407a _).trans ((hmk k126 (by omega)).2 q9 j j0 j1)⟩
              have hdx : zdC (zkn T n (zAt T n k126)) (M3 407 (4 * (k126 : Int) + 1)) (M3 407 (4 * (k126 : Int) + 2)) (M3 407 (4 * (k126 : Int) + 3)) (M3 399) = zdX T n k126 (zVi T n V k126) := by rw [hv3]; exact zdX_is hmk9 hqk
              rw [hdx] at hD
              rcases hD with ⟨hD0, rfl⟩ | ⟨hD0, rfl⟩
              · skip
                refine z_aload_n C0 hl 0 rfl dX12_execute_139 ?_
                refine zg_9_8 C0 Wd zN398 zK398 zk_1620 dX12_execute_140 ?_
                obtain ⟨he48, hz47⟩ : ((zu M3 398 8 (zdX T n k126 (zVi T n V k126)).1) 398 8) = (zdX T n k126 (zVi T n V k126)).1 ∧ zR ((zdX T n k126 (zVi T n V k126)).1) := (fun q => ⟨q, q ▸ Wd.rm _ _⟩) (zu_same _ _ _ _)
                refine z_top (congrArg zI he48) ?_
                clear he48
                refine z_if_le C0 (tgt := 161) hz47 dX12_execute_143 (by decide) (fun c49 => absurd c49 (by omega)) (fun c49 => ?_)
                refine z_aload_n C0 hl 0 rfl dX12_execute_146 ?_
                refine z_iload_n C0 hl 1 rfl dX12_execute_147 ?_
                refine zp_9_16 C0 Wd zN398 zK398 (zR_mk (by omega) (by omega)) zk_1628 dX12_execute_148 (fun H locs Wd => ?_)
                refine z_aload_n C0 hl 0 rfl dX12_execute_151 ?_
                refine z_aload_n C0 hl 0 rfl dX12_execute_152 ?_
                refine z_iconst C0 dX12_execute_153 ?_
                refine z_invVi (As := [.int (zI 2)]) (rest := [.ref (ad 398)]) C0 Wd (ct_X12_fails l g ad (zu (zu M3 398 8 (zdX T n k126 (zVi T n V k126)).1) 398 16 (k126 : Int)) zF0 2 (zR_mk (by decide) (by decide))) kv_X12_fails zN398 (zE_9 zK398) rfl zk_1687 rfl hl.1 rfl (Nat.le_of_ble_eq_true rfl) (by decide) (by decide) dX12_execute_154 (fun r50 zMr50 zFr50 H locs hrr50 hp Wd => ?_)
                obtain ⟨rfl, rfl, rfl⟩ := hp
                refine z_invVi (As := [.int (zI 0)]) (rest := []) C0 Wd (ct_X12_ends_fail l g ad (zu (zu (zu M3 398 8 (zdX T n k126 (zVi T n V k126)).1) 398 16 (k126 : Int)) 398 8 2) zF0 0 (zR_mk (by decide) (by decide)) (by rw [zu_same]; decide)) kv_X12_ends zN398 (zE_9 zK398) rfl zk_1691 rfl hl.1 rfl (Nat.le_of_ble_eq_true rfl) (by decide) (by decide) dX12_execute_157 (fun r52 zMr52 zFr52 H locs hrr52 hp Wd => ?_)
                obtain ⟨rfl, rfl, rfl⟩ := hp
                replace Wd : zW g _ s.heap 410 ad (zrow (zu (zu (zu M3 398 8 (zdX T n k126 (zVi T n V k126)).1) 398 16 (k126 : Int)) 398 8 2) 399 (M3 400)) _ H locs := Wd
                have hXM : zXM T n V k19 zM0 0 (zrow (zu (zu (zu M3 398 8 (zdX T n k126 (zVi T n V k126)).1) 398 16 (k126 : Int)) 398 8 2) 399 (M3 400)) := ⟨⟨hgo, hng⟩, ⟨fun i a1 a2 a3 a4 a5 a6 => (zrow_ne a2).trans ((zu_row a1).trans ((zu_row a1).trans ((zu_row a1).trans ((hf3 i a2 a5).trans ((hkf i a1 a3).trans (hfr i a1 a6)))))), fun j a1 a2 a3 a4 a5 a6 a7 a8 => (congrFun (zrow_ne (by decide)) _).trans ((zu_ne (by omega)).trans ((zu_ne (by omega)).trans ((zu_ne (by omega)).trans ((congrFun h398 _).trans ((hk8 j a2 a3 a5 a6).trans (hf8 j a4 a5 a8)))))), (((congrFun (zrow_ne (by decide)) _).trans ((zu_ne (by omega)).trans ((zu_ne (by omega)).trans (zu_ne (by omega)))))).trans ((congrFun h398 _).trans h12)⟩, Or.inr (Or.inl ⟨hze, k126, by omega, hok, fun z => by have z9 : (zdX T n k126 (zVi T n V k126)).1 = 0 := z; omega, rfl, ((congrFun (zrow_ne (by decide)) _).trans (zu_same _ _ _ _)), (((congrFun (zrow_ne (by decide)) _).trans ((zu_ne (by omega)).trans ((zu_ne (by omega)).trans (zu_ne (by omega)))))).trans ((congrFun h398 _).trans h15), ((congrFun (zrow_ne (by decide)) _).trans ((zu_ne (by omega)).trans (zu_same _ _ _ _))), (((congrFun (zrow_ne (by decide)) _).trans ((zu_ne (by omega)).trans ((zu_ne (by omega)).trans (zu_ne (by omega)))))).trans ((congrFun h398 _).trans ((hk8 6 (by decide) (by decide) (by decide) (by decide)).trans (hf8 6 (by decide) (by decide) (by decide)))), (zrow_same _ _ _).trans ((hf3 400 (by decide) (by decide)).trans h400), (zrow_ne (by decide)).trans ((zu_row (by decide)).trans ((zu_row (by decide)).trans ((zu_row (by decide)).trans ((hf3 403 (by decide) (by decide)).trans ((hkf 403 (by decide) (by decide)).trans (hfr 403 (by decide) (by decide)))))))⟩)⟩
                exact z_iret C0 Wd hret hlk (zR_mk (by decide) (by decide)) ⟨k19, hXM, rfl⟩ dX12_execute_160
              · skip
                refine z_aload_n C0 hl 0 rfl dX12_execute_139 ?_
                refine zg_9_8 C0 Wd zN398 zK398 zk_1620 dX12_execute_140 ?_
                obtain ⟨he55, hz54⟩ : ((zrow (zrow M3 399 (zdX T n k126 (zVi T n V k126)).2.2) 404 w9) 398 8) = 0 ∧ zR 0 := (fun q => ⟨q, q ▸ Wd.rm _ _⟩) ((congrFun (zrow_ne (by decide)) _).trans ((congrFun (zrow_ne (by decide)) _).trans h83))
                refine z_top (congrArg zI he55) ?_
                clear he55
                refine z_if_le C0 (tgt := 161) hz54 dX12_execute_143 (by decide) (fun _ => ?_) (fun h => absurd h (by decide))
                refine z_iinc C0 hl 1 (t := (k126 : Int)) (u := ((k126 : Int) + 1)) rfl (by omega) [(1, .int (zI ((k126 : Int) + 1))), (0, .ref (ad 398))] (by decide) rfl dX12_execute_161 (fun ls hl => ?_)
                refine z_goto C0 (tgt := 126) dX12_execute_164 (by decide) ?_
                exact ih126 (k126 + 1) (by omega) (zrow (zrow M3 399 (zdX T n k126 (zVi T n V k126)).2.2) 404 w9) ((zrow_ne (by decide)).trans (zrow_same _ _ _)) ((zrow_ne (by decide)).trans ((zrow_ne (by decide)).trans h398)) (fun i a1 a2 => (zrow_ne a2).trans ((zrow_ne a1).trans (hf3 i a1 a2))) (fun i a1 => by
                    by_cases e9 : i = k126
                    · rw [e9]; exact hD0
                    · exact hok i (by omega)) _ _ _ Wd (lv_sub hl [1, 0] rfl)
        exact lp126 (((k19 : Int) + 1)).toNat 0 (by omega) Mk h399 rfl (fun _ _ _ => rfl) (fun i a1 => absurd a1 (Nat.not_lt_zero i)) _ _ _ Wd (lv_sub hl [1, 0] rfl)
      · skip
        refine z_iconst C0 dX12_execute_72 ?_
        refine z_goto C0 (tgt := 77) dX12_execute_73 (by decide) ?_
        refine zp_9_14 C0 Wd zN398 zK398 (by omega) zk_1626 dX12_execute_77 (fun H locs Wd => ?_)
        have hze : zer T n k19 = zps (zEn T n (zAt T n k19)) := if_neg (fun z => by have := zps_nn (show 0 ≤ (zEn T n (zAt T n k19)) by omega); omega)
        refine z_aload_n C0 hl 0 rfl dX12_execute_80 ?_
        refine z_aload_n C0 hl 0 rfl dX12_execute_81 ?_
        refine zg_9_14 C0 Wd zN398 zK398 zk_1626 dX12_execute_82 ?_
        obtain ⟨he59, hz57⟩ : ((zu M2 398 14 1) 398 14) = 1 ∧ zR 1 := (fun q => ⟨q, q ▸ Wd.rm _ _⟩) (zu_same _ _ _ _)
        refine z_top (congrArg zI he59) ?_
        clear he59
        refine z_if_eq C0 (tgt := 95) (zR_mk (by decide) (by decide)) dX12_execute_85 (by decide) (fun h => absurd h (by decide)) (fun _ => ?_)
        refine z_aload_n C0 hl 0 rfl dX12_execute_88 ?_
        refine zg_9_13 C0 Wd zN398 zK398 zk_1625 dX12_execute_89 ?_
        obtain ⟨he62, hz61⟩ : ((zu M2 398 14 1) 398 13) = (zps (zEn T n (zAt T n k19))) ∧ zR (zps (zEn T n (zAt T n k19))) := (fun q => ⟨q, q ▸ Wd.rm _ _⟩) ((zu_ne (by omega)).trans hps.2.2.2.1)
        refine z_top (congrArg zI he62) ?_
        clear he62
        refine z_goto C0 (tgt := 99) dX12_execute_92 (by decide) ?_
        refine zp_9_15 C0 Wd zN398 zK398 hz61 zk_1627 dX12_execute_99 (fun H locs Wd => ?_)
        refine z_aload_n C0 hl 0 rfl dX12_execute_102 ?_
        refine z_iconst C0 dX12_execute_103 ?_
        refine zp_9_12 C0 Wd zN398 zK398 (zR_mk (by decide) (by decide)) zk_1624 dX12_execute_104 (fun H locs Wd => ?_)
        refine z_aload_n C0 hl 0 rfl dX12_execute_107 ?_
        refine zg_9_14 C0 Wd zN398 zK398 zk_1626 dX12_execute_108 ?_
        obtain ⟨he65, hz63⟩ : ((zu (zu (zu M2 398 14 1) 398 15 (zps (zEn T n (zAt T n k19)))) 398 12 0) 398 14) = 1 ∧ zR 1 := (fun q => ⟨q, q ▸ Wd.rm _ _⟩) ((zu_ne (by omega)).trans ((zu_ne (by omega)).trans (zu_same _ _ _ _)))
        refine z_top (congrArg zI he65) ?_
        clear he65
        refine z_if_eq C0 (tgt := 120) (zR_mk (by decide) (by decide)) dX12_execute_111 (by decide) (fun h => absurd h (by decide)) (fun _ => ?_)
        refine z_aload_n C0 hl 0 rfl dX12_execute_114 ?_
        refine z_iconst C0 dX12_execute_115 ?_
        refine z_invVi (As := [.int (zI 1)]) (rest := []) C0 Wd (ct_X12_fails l g ad (zu (zu (zu M2 398 14 1) 398 15 (zps (zEn T n (zAt T n k19)))) 398 12 0) zF0 1 (zR_mk (by decide) (by decide))) kv_X12_fails zN398 (zE_9 zK398) rfl zk_1687 rfl hl.1 rfl (Nat.le_of_ble_eq_true rfl) (by decide) (by decide) dX12_execute_116 (fun r67 zMr67 zFr67 H locs hrr67 hp Wd => ?_)
        obtain ⟨rfl, rfl, rfl⟩ := hp
        have hXM : zXM T n V k19 zM0 0 (zu (zu (zu (zu M2 398 14 1) 398 15 (zps (zEn T n (zAt T n k19)))) 398 12 0) 398 8 1) := ⟨⟨hgo, hng⟩, ⟨fun i a1 a2 a3 a4 a5 a6 => (zu_row a1).trans ((zu_row a1).trans ((zu_row a1).trans ((zu_row a1).trans (hfr i a1 a6)))), fun j a1 a2 a3 a4 a5 a6 a7 a8 => (zu_ne (by omega)).trans ((zu_ne (by omega)).trans ((zu_ne (by omega)).trans ((zu_ne (by omega)).trans (hf8 j a4 a5 a8)))), ((zu_ne (by omega)).trans (zu_same _ _ _ _))⟩, Or.inl ⟨by rw [hze]; omega, rfl, (zu_same _ _ _ _), (((zu_ne (by omega)).trans ((zu_ne (by omega)).trans (zu_same _ _ _ _)))).trans hze.symm, (((zu_ne (by omega)).trans ((zu_ne (by omega)).trans ((zu_ne (by omega)).trans (zu_ne (by omega)))))).trans (hf8 16 (by decide) (by decide) (by decide)), (((zu_ne (by omega)).trans ((zu_ne (by omega)).trans ((zu_ne (by omega)).trans (zu_ne (by omega)))))).trans (hf8 6 (by decide) (by decide) (by decide)), (zu_row (by decide)).trans ((zu_row (by decide)).trans ((zu_row (by decide)).trans ((zu_row (by decide)).trans ((hfr 399 (by decide) (by decide)).trans hV9)))), (zu_row (by decide)).trans ((zu_row (by decide)).trans ((zu_row (by decide)).trans ((zu_row (by decide)).trans (hfr 403 (by decide) (by decide)))))⟩⟩
        exact z_iret C0 Wd hret hlk (zR_mk (by decide) (by decide)) ⟨k19, hXM, rfl⟩ dX12_execute_119
  have lp19 : ∀ (d19 k19 : Nat) (hk19 : (k19 : Int) + d19 = 9) (M2 : zMem) (hps : zPS T n (zEn T n (zAt T n k19)) M2) (hc18 : M2 398 18 = (k19 : Int) + 1) (hgo : ∀ i, i < k19 → zgo T n i) (hfr : ∀ i, i ≠ 398 → i ≠ 407 → M2 i = zM0 i) (hf8 : ∀ j, j ≠ 13 → j ≠ 14 → j ≠ 18 → M2 398 j = zM0 398 j) (hmk : ∀ i, i ≤ k19 → zMk T n i M2) (H : Heap) (locs : List Loc) (ls : Array Slot) (Wd : zW g (zA 410 ad s.heap.size) s.heap 410 ad M2 zF0 H locs) (hl : lv_has ls 2 [(0, .ref (ad 398))]), W p l e (zrm 10 0 0) s m args below meth c H locs 0 0 (zMQ below g 410 ad (zPi (fun r M' F' => ∃ m : Nat, zXM T n V m zM0 r M' ∧ zF0 = F')) args s 0 0) (F0 m 19 ls []) := by
    intro d19
    induction d19 with
    | zero =>
      intro k19 hk19 M2 hps hc18 hgo hfr hf8 hmk H locs ls Wd hl
      have hab := zAt_bd hn1.1 k19 hgo
      refine z_aload_n C0 hl 0 rfl dX12_execute_19 ?_
      refine zg_9_14 C0 Wd zN398 zK398 zk_1626 dX12_execute_20 ?_
      obtain ⟨he70, hz69⟩ : (M2 398 14) = (zb ((zEn T n (zAt T n k19)) < 0)) ∧ zR (zb ((zEn T n (zAt T n k19)) < 0)) := (fun q => ⟨q, q ▸ Wd.rm _ _⟩) hps.2.2.2.2.1
      refine z_top (congrArg zI he70) ?_
      clear he70
      refine z_if_ne_b C0 (tgt := 53) dX12_execute_23 (by decide) (fun c71 => ?_) (fun c71 => ?_)
      · skip
        first | exact aft19 k19 (by omega) M2 hps hc18 hgo hfr hf8 hmk (by first | assumption | omega) _ _ _ Wd (lv_sub hl [0] rfl) | (exfalso; omega)
      · skip
        refine z_aload_n C0 hl 0 rfl dX12_execute_26 ?_
        refine z_iconst C0 dX12_execute_27 ?_
        refine z_invVi (As := [.int (zI 0)]) (rest := []) C0 Wd (ct_X12_behind l g ad M2 zF0 T n (zEn T n (zAt T n k19)) 0 (zR_mk (by decide) (by decide)) hps (by omega) hT) kv_X12_behind zN398 (zE_9 zK398) rfl zk_2016 rfl hl.1 rfl (Nat.le_of_ble_eq_true rfl) (by decide) (by decide) dX12_execute_28 (fun r72 zMr72 zFr72 H locs hrr72 hp Wd => ?_)
        obtain ⟨rfl, rfl, rfl⟩ := hp
        have hbz9 : zps (zEn T n (zAt T n k19)) + 0 = (zEn T n (zAt T n k19)) := by rw [zps_nn (by omega)]; omega
        obtain ⟨he74, hbq9⟩ : (zbh T n (zps (zEn T n (zAt T n k19)) + 0)) = (zbh T n (zEn T n (zAt T n k19))) ∧ zR (zbh T n (zEn T n (zAt T n k19))) := (fun q => ⟨q, q ▸ hrr72⟩) (congrArg (zbh T n) hbz9)
        refine z_top (congrArg zI he74) ?_
        clear he74
        refine z_bipush C0 dX12_execute_31 (by decide) ?_
        refine z_icmp_ne C0 (tgt := 53) hbq9 (zR_mk (by decide) (by decide)) dX12_execute_33 (by decide) (fun c75 => ?_) (fun c75 => ?_)
        · skip
          first | exact aft19 k19 (by omega) M2 hps hc18 hgo hfr hf8 hmk (by first | assumption | omega) _ _ _ Wd (lv_sub hl [0] rfl) | (exfalso; omega)
        · skip
          exfalso; omega
    | succ d19 ih19 =>
      intro k19 hk19 M2 hps hc18 hgo hfr hf8 hmk H locs ls Wd hl
      have hab := zAt_bd hn1.1 k19 hgo
      refine z_aload_n C0 hl 0 rfl dX12_execute_19 ?_
      refine zg_9_14 C0 Wd zN398 zK398 zk_1626 dX12_execute_20 ?_
      obtain ⟨he77, hz76⟩ : (M2 398 14) = (zb ((zEn T n (zAt T n k19)) < 0)) ∧ zR (zb ((zEn T n (zAt T n k19)) < 0)) := (fun q => ⟨q, q ▸ Wd.rm _ _⟩) hps.2.2.2.2.1
      refine z_top (congrArg zI he77) ?_
      clear he77
      refine z_if_ne_b C0 (tgt := 53) dX12_execute_23 (by decide) (fun c78 => ?_) (fun c78 => ?_)
      · skip
        first | exact aft19 k19 (by omega) M2 hps hc18 hgo hfr hf8 hmk (by first | assumption | omega) _ _ _ Wd (lv_sub hl [0] rfl) | (exfalso; omega)
      · skip
        refine z_aload_n C0 hl 0 rfl dX12_execute_26 ?_
        refine z_iconst C0 dX12_execute_27 ?_
        refine z_invVi (As := [.int (zI 0)]) (rest := []) C0 Wd (ct_X12_behind l g ad M2 zF0 T n (zEn T n (zAt T n k19)) 0 (zR_mk (by decide) (by decide)) hps (by omega) hT) kv_X12_behind zN398 (zE_9 zK398) rfl zk_2016 rfl hl.1 rfl (Nat.le_of_ble_eq_true rfl) (by decide) (by decide) dX12_execute_28 (fun r79 zMr79 zFr79 H locs hrr79 hp Wd => ?_)
        obtain ⟨rfl, rfl, rfl⟩ := hp
        have hbz9 : zps (zEn T n (zAt T n k19)) + 0 = (zEn T n (zAt T n k19)) := by rw [zps_nn (by omega)]; omega
        obtain ⟨he81, hbq9⟩ : (zbh T n (zps (zEn T n (zAt T n k19)) + 0)) = (zbh T n (zEn T n (zAt T n k19))) ∧ zR (zbh T n (zEn T n (zAt T n k19))) := (fun q => ⟨q, q ▸ hrr79⟩) (congrArg (zbh T n) hbz9)
        refine z_top (congrArg zI he81) ?_
        clear he81
        refine z_bipush C0 dX12_execute_31 (by decide) ?_
        refine z_icmp_ne C0 (tgt := 53) hbq9 (zR_mk (by decide) (by decide)) dX12_execute_33 (by decide) (fun c82 => ?_) (fun c82 => ?_)
        · skip
          first | exact aft19 k19 (by omega) M2 hps hc18 hgo hfr hf8 hmk (by first | assumption | omega) _ _ _ Wd (lv_sub hl [0] rfl) | (exfalso; omega)
        · skip
          have hlt9 := ((zbh_is (T := T) (n := n) (p := (zEn T n (zAt T n k19))) (c := 59) (by decide)).mp (by assumption)).1
          refine z_aload_n C0 hl 0 rfl dX12_execute_36 ?_
          refine z_dup C0 rfl dX12_execute_37 ?_
          refine zg_9_13 C0 Wd zN398 zK398 zk_1625 dX12_execute_38 ?_
          obtain ⟨he84, hz83⟩ : (M2 398 13) = (zEn T n (zAt T n k19)) ∧ zR (zEn T n (zAt T n k19)) := (fun q => ⟨q, q ▸ Wd.rm _ _⟩) (hps.2.2.2.1.trans (zps_nn (by omega)))
          refine z_top (congrArg zI he84) ?_
          clear he84
          refine z_iconst C0 dX12_execute_41 ?_
          refine z_iadd C0 dX12_execute_42 ?_
          refine zp_9_13 C0 Wd zN398 zK398 (by have q0 := hz83.1; have p0 := hz83.2; exact zR_mk (by omega) (by omega)) zk_1625 dX12_execute_43 (fun H locs Wd => ?_)
          have hps2 : zPS T n (zAt T n (k19 + 1)) (zu M2 398 13 ((zEn T n (zAt T n k19)) + 1)) := zPS_13 hps (by omega) (by omega) rfl
          have hab2 : zAt T n (k19 + 1) = (zEn T n (zAt T n k19)) + 1 := rfl
          refine z_aload_n C0 hl 0 rfl dX12_execute_46 ?_
          refine z_invVv (As := []) (rest := []) C0 Wd (ct_X12_readCommand l g ad (zu M2 398 13 ((zEn T n (zAt T n k19)) + 1)) zF0 T n (zAt T n (k19 + 1)) hps2 hT (by omega) (by show 0 ≤ (M2 398 18) ∧ (M2 398 18) < 60; first | omega | assumption)) kv_X12_readCommand zN398 (zE_9 zK398) rfl zk_2012 rfl hl.1 rfl (Nat.le_of_ble_eq_true rfl) (by decide) (by decide) dX12_execute_47 (fun zMr85 zFr85 H locs hp Wd => ?_)
          obtain ⟨⟨hRp, hR18, hRc, hRa, hRf, hR8, hR7⟩, rfl⟩ := hp
          rw [show (zu M2 398 13 ((zEn T n (zAt T n k19)) + 1)) 398 18 = (k19 : Int) + 1 from (zu_ne (by omega)).trans hc18] at hR18 hRc hRa hR7
          refine z_goto C0 (tgt := 19) dX12_execute_50 (by decide) ?_
          exact ih19 (k19 + 1) (by omega) zMr85 hRp (by rw [hR18]; omega) (fun i a1 => by
              by_cases e9 : i = k19
              · rw [e9]; exact ⟨by omega, ((zbh_is (T := T) (n := n) (p := zEn T n (zAt T n k19)) (c := 59) (by decide)).mp (by assumption)).1, ((zbh_is (T := T) (n := n) (p := zEn T n (zAt T n k19)) (c := 59) (by decide)).mp (by assumption)).2⟩
              · exact hgo i (by omega)) (fun i a1 a2 => (hRf i a1 a2).trans ((zu_row a1).trans (hfr i a1 a2))) (fun j a1 a2 a3 => (hR8 j a1 a2 a3).trans ((zu_ne (by omega)).trans (hf8 j a1 a2 a3))) (fun i a1 => by
              by_cases e9 : i = k19 + 1
              · rw [e9]; exact ⟨hRc, hRa⟩
              · have b9 := hmk i (by omega)
                have z9 := zkm_bd (k := zkn T n (zAt T n i))
                exact ⟨(hR7 _ (by omega)).trans ((zu_ne (by omega)).trans b9.1), fun q9 j j0 j1 => (hR7 _ (by omega)).trans ((zu_ne (by omega)).trans (b9.2 q9 j j0 j1))⟩) _ _ _ Wd (lv_sub hl [0] rfl)
  exact lp19 9 0 (by omega) zMr1 hRp (by rw [hR18]; rfl) (fun i a1 => absurd a1 (Nat.not_lt_zero i)) (fun i a1 a2 => (hRf i a1 a2).trans ((zu_row a1).trans ((zu_row a1).trans (zu_row a1)))) (fun j a1 a2 a3 => (hR8 j a1 a2 a3).trans ((zu_ne (by omega)).trans ((zu_ne (by omega)).trans (zu_ne (by omega))))) (fun i a1 => by
      have e9 : i = 0 := by omega
      subst e9
      exact ⟨hRc, hRa⟩) _ _ _ Wd (lv_sub hl [0] rfl)
