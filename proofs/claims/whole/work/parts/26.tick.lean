/-! the model: a tick -/
theorem kv_X12_ticksOnce : zKV yX12_ticksOnce cX12_ticksOnce 2 none "DrumWarrenModel" 0 := ⟨zk_1923, zk_1922, zk_48, zk_80, by decide, by decide, by decide +kernel⟩
set_option maxHeartbeats 4000000 in
set_option maxRecDepth 100000 in
theorem ct_X12_ticksOnce (l : Launch) (g : zG) (ad : Int → Nat) (zM0 zF0 : zMem) (zt : Int) (hV : zIV zt (zM0 399)) (htd : zTD (zM0 399)) (ht : zt ≤ 90000000) : zMt l yX12_ticksOnce cX12_ticksOnce 2 none 5 0 0 g 410 ad [.ref (ad 398)] zM0 zF0 (zPv (fun M' F' => (∃ r : Int → Int, (zrow (zrow zM0 399 (zTick (zM0 399))) 404 r) = M' ∧ zF0 = F'))) := by
  refine zMt.of "DrumWarrenModel" rfl (by decide) (Nat.le_of_ble_eq_true rfl) (fun {p e s m args below meth c ls} C0 Wd hl hret hlk hin => ?_)
  have hl : lv_has ls 2 [(0, .ref (ad 398))] := hl
  have ht2 : zt ≤ 100000000 := by omega
  have h2b := hV.2.2.1
  obtain ⟨hA1, hA2, hA3⟩ := zBegs_keep hV htd
  have eA2 := hA3 2 (by decide)
  replace Wd : zW g _ s.heap 410 ad (zrow (zrow zM0 399 (zM0 399)) 404 (zM0 404)) _ s.heap [] := (by rw [zrows_eta (by decide)]; exact Wd)
  refine z_aload_n C0 hl 0 rfl dX12_ticksOnce_0 ?_
  refine z_invVv (As := []) (rest := []) C0 Wd (ct_X12_begins l g ad (zrow (zrow zM0 399 (zM0 399)) 404 (zM0 404)) zF0 zt (by show zIV zt (zM0 399); first | omega | assumption) (by omega)) kv_X12_begins zN398 (zE_9 zK398) rfl zk_1924 rfl hl.1 rfl (Nat.le_of_ble_eq_true rfl) (by decide) (by decide) dX12_ticksOnce_1 (fun zMr1 zFr1 H locs hp Wd => ?_)
  obtain ⟨rfl, rfl⟩ := hp
  replace Wd : zW g _ s.heap 410 ad (zrow (zrow (zrow zM0 399 (zM0 399)) 404 (zM0 404)) 399 (zBegs (zM0 399))) _ H locs := Wd
  replace Wd := zW.mem Wd (show _ = (zrow (zrow zM0 399 (zBegs (zM0 399))) 404 (zM0 404)) from (zrow_in (M := zM0) (i := 399) (j := 404) (v := (zM0 399)) (r := (zM0 404)) (by decide)))
  refine z_iconst C0 dX12_ticksOnce_4 ?_
  refine z_istore_n C0 hl [(1, .int (zI 0)), (0, .ref (ad 398))] (by decide) rfl dX12_ticksOnce_5 (fun ls hl => ?_)
  have aft6 : ∀ (k6 : Nat) (hk6 : (k6 : Int) ≤ (zM0 399 2)) (v6 : Int → Int) (r6 : Int → Int) (hv6 : v6 = zfold (fun p W => if W (96 + 47 * p + 4) = 100 then zDr p W else W) k6 (zBegs (zM0 399))) (hx6 : (k6 : Int) = (zM0 399 2)) (H : Heap) (locs : List Loc) (ls : Array Slot) (Wd : zW g (zA 410 ad s.heap.size) s.heap 410 ad (zrow (zrow zM0 399 v6) 404 r6) zF0 H locs) (hl : lv_has ls 2 [(0, .ref (ad 398)), (1, .int (zI (k6 : Int)))]), W p l e (zrm 5 0 0) s m args below meth c H locs 0 0 (zMQ below g 410 ad (zPv (fun M' F' => (∃ r : Int → Int, (zrow (zrow zM0 399 (zTick (zM0 399))) 404 r) = M' ∧ zF0 = F'))) args s 0 0) (F0 m 38 ls []) := by
    intro k6 hk6 v6 r6 hv6 hx6 H locs ls Wd hl
    replace hl : lv_has ls 2 [(0, .ref (ad 398))] := lv_sub hl [0] rfl
    have e6k : k6 = (zBegs (zM0 399) 2).toNat := by omega
    subst e6k
    have hvB : v6 = zTkB (zBegs (zM0 399)) := hv6
    obtain ⟨hIB, hBk, -⟩ := zTkB_keep hA1 hA2 (zBegs (zM0 399) 2).toNat (by omega)
    rw [← hv6] at hIB hBk
    have eB2 := (hBk 2 (by decide) (by decide)).trans eA2
    refine z_iconst C0 dX12_ticksOnce_38 ?_
    refine z_istore_n C0 hl [(1, .int (zI 0)), (0, .ref (ad 398))] (by decide) rfl dX12_ticksOnce_39 (fun ls hl => ?_)
    have aft40 : ∀ (k40 : Nat) (hk40 : (k40 : Int) ≤ (zM0 399 2)) (v40 : Int → Int) (r40 : Int → Int) (hv40 : v40 = zfold (fun p W => if W (96 + 47 * p + 4) = 100 ∧ W (96 + 47 * p + 6) = 5 then zDe p W else W) k40 v6) (hx40 : (k40 : Int) = (zM0 399 2)) (H : Heap) (locs : List Loc) (ls : Array Slot) (Wd : zW g (zA 410 ad s.heap.size) s.heap 410 ad (zrow (zrow zM0 399 v40) 404 r40) zF0 H locs) (hl : lv_has ls 2 [(0, .ref (ad 398)), (1, .int (zI (k40 : Int)))]), W p l e (zrm 5 0 0) s m args below meth c H locs 0 0 (zMQ below g 410 ad (zPv (fun M' F' => (∃ r : Int → Int, (zrow (zrow zM0 399 (zTick (zM0 399))) 404 r) = M' ∧ zF0 = F'))) args s 0 0) (F0 m 83 ls []) := by
      intro k40 hk40 v40 r40 hv40 hx40 H locs ls Wd hl
      replace hl : lv_has ls 2 [(0, .ref (ad 398))] := lv_sub hl [0] rfl
      have e40k : k40 = (v6 2).toNat := by omega
      subst e40k
      have hvC : v40 = zTkC v6 := hv40
      obtain ⟨hIC, hCk, -⟩ := zTkC_keep hIB (v6 2).toNat (by omega)
      rw [← hv40] at hIC hCk
      have hC4 := hIC.2.2.2.1 4 (by decide) (by decide)
      refine z_aload_n C0 hl 0 rfl dX12_ticksOnce_83 ?_
      refine zg_9_0 C0 Wd zN398 zK398 zk_1612 dX12_ticksOnce_84 ?_
      refine z_iconst C0 dX12_ticksOnce_87 ?_
      refine z_dup2 C0 rfl rfl dX12_ticksOnce_88 ?_
      refine z_iald C0 Wd zN399 zK399 zL399 (by decide) (by decide) (by decide) dX12_ticksOnce_89 ?_
      obtain ⟨he5, hz3⟩ : ((zrow (zrow zM0 399 v40) 404 r40) 399 4) = (v40 4) ∧ zR (v40 4) := (fun q => ⟨q, q ▸ Wd.rm _ _⟩) ((congrFun (zrow_ne (by decide)) _).trans (congrFun (zrow_same _ _ _) _))
      refine z_top (congrArg zI he5) ?_
      clear he5
      refine z_iconst C0 dX12_ticksOnce_90 ?_
      refine z_iadd C0 dX12_ticksOnce_91 ?_
      refine z_iast C0 Wd zN399 zK399 zL399 (by decide) (by decide) (by decide) (by have q0 := hz3.1; have p0 := hz3.2; exact zR_mk (by omega) (by omega)) dX12_ticksOnce_92 (fun H locs Wd => ?_)
      replace Wd := zW.mem Wd (show _ = (zrow (zrow zM0 399 (zup v40 4 ((v40 4) + 1))) 404 r40) from ((zu_zrow_ne (by decide)).trans (zrow_c 404 r40 (zu_zrow zM0 399 v40 4 ((v40 4) + 1)))))
      refine z_iconst C0 dX12_ticksOnce_93 ?_
      refine z_istore_n C0 hl [(1, .int (zI 0)), (0, .ref (ad 398))] (by decide) rfl dX12_ticksOnce_94 (fun ls hl => ?_)
      have aft95 : ∀ (k95 : Nat) (hk95 : (k95 : Int) ≤ 8) (v95 : Int → Int) (hv95 : v95 = zfold (fun c W => zup W (472 + 128 * c + (W 4 - 20 - 1) % 128) 0) k95 (zup v40 4 (v40 4 + 1))) (hx95 : (k95 : Int) = 8) (H : Heap) (locs : List Loc) (ls : Array Slot) (Wd : zW g (zA 410 ad s.heap.size) s.heap 410 ad (zrow (zrow zM0 399 v95) 404 r40) zF0 H locs) (hl : lv_has ls 2 [(0, .ref (ad 398)), (1, .int (zI (k95 : Int)))]), W p l e (zrm 5 0 0) s m args below meth c H locs 0 0 (zMQ below g 410 ad (zPv (fun M' F' => (∃ r : Int → Int, (zrow (zrow zM0 399 (zTick (zM0 399))) 404 r) = M' ∧ zF0 = F'))) args s 0 0) (F0 m 129 ls []) := by
        intro k95 hk95 v95 hv95 hx95 H locs ls Wd hl
        replace hl : lv_has ls 2 [(0, .ref (ad 398))] := lv_sub hl [0] rfl
        obtain rfl : k95 = 8 := by omega
        exact z_vret C0 Wd hret hlk ⟨_, by rw [hv95, hvC, hvB]; rfl, rfl⟩ dX12_ticksOnce_129
      have lp95 : ∀ (d95 k95 : Nat) (hk95 : (k95 : Int) + d95 = 8) (v95 : Int → Int) (hv95 : v95 = zfold (fun c W => zup W (472 + 128 * c + (W 4 - 20 - 1) % 128) 0) k95 (zup v40 4 (v40 4 + 1))) (H : Heap) (locs : List Loc) (ls : Array Slot) (Wd : zW g (zA 410 ad s.heap.size) s.heap 410 ad (zrow (zrow zM0 399 v95) 404 r40) zF0 H locs) (hl : lv_has ls 2 [(0, .ref (ad 398)), (1, .int (zI (k95 : Int)))]), W p l e (zrm 5 0 0) s m args below meth c H locs 0 0 (zMQ below g 410 ad (zPv (fun M' F' => (∃ r : Int → Int, (zrow (zrow zM0 399 (zTick (zM0 399))) 404 r) = M' ∧ zF0 = F'))) args s 0 0) (F0 m 95 ls []) := by
        intro d95
        induction d95 with
        | zero =>
          intro k95 hk95 v95 hv95 H locs ls Wd hl
          have hI95 := (zTkD_keep (zIV_cnt (zIV_mono hIC (Int.le_add_of_nonneg_right (show (0 : Int) ≤ 1 by decide))) (w := 4) (v := v40 4 + 1) ⟨by decide, by decide⟩ ⟨by omega, by omega⟩) k95 (by omega)).1
          rw [← hv95] at hI95
          have h954 := hI95.2.2.2.1 4 (by decide) (by decide)
          refine z_iload_n C0 hl 1 rfl dX12_ticksOnce_95 ?_
          refine z_bipush C0 dX12_ticksOnce_96 (by decide) ?_
          refine z_icmp_ge C0 (tgt := 129) (zR_mk (by omega) (by omega)) (zR_mk (by decide) (by decide)) dX12_ticksOnce_98 (by decide) (fun c6 => ?_) (fun c6 => ?_)
          · skip
            first | exact aft95 k95 (by omega) v95 hv95 (by first | assumption | omega) _ _ _ Wd (lv_sub hl [0, 1] rfl) | (exfalso; omega)
          · skip
            exfalso; omega
        | succ d95 ih95 =>
          intro k95 hk95 v95 hv95 H locs ls Wd hl
          have hI95 := (zTkD_keep (zIV_cnt (zIV_mono hIC (Int.le_add_of_nonneg_right (show (0 : Int) ≤ 1 by decide))) (w := 4) (v := v40 4 + 1) ⟨by decide, by decide⟩ ⟨by omega, by omega⟩) k95 (by omega)).1
          rw [← hv95] at hI95
          have h954 := hI95.2.2.2.1 4 (by decide) (by decide)
          refine z_iload_n C0 hl 1 rfl dX12_ticksOnce_95 ?_
          refine z_bipush C0 dX12_ticksOnce_96 (by decide) ?_
          refine z_icmp_ge C0 (tgt := 129) (zR_mk (by omega) (by omega)) (zR_mk (by decide) (by decide)) dX12_ticksOnce_98 (by decide) (fun c7 => ?_) (fun c7 => ?_)
          · skip
            first | exact aft95 k95 (by omega) v95 hv95 (by first | assumption | omega) _ _ _ Wd (lv_sub hl [0, 1] rfl) | (exfalso; omega)
          · skip
            refine z_aload_n C0 hl 0 rfl dX12_ticksOnce_101 ?_
            refine zg_9_0 C0 Wd zN398 zK398 zk_1612 dX12_ticksOnce_102 ?_
            refine z_aload_n C0 hl 0 rfl dX12_ticksOnce_105 ?_
            refine z_iload_n C0 hl 1 rfl dX12_ticksOnce_106 ?_
            refine z_aload_n C0 hl 0 rfl dX12_ticksOnce_107 ?_
            refine zg_9_0 C0 Wd zN398 zK398 zk_1612 dX12_ticksOnce_108 ?_
            refine z_iconst C0 dX12_ticksOnce_111 ?_
            refine z_iald C0 Wd zN399 zK399 zL399 (by decide) (by decide) (by decide) dX12_ticksOnce_112 ?_
            obtain ⟨he10, hz8⟩ : ((zrow (zrow zM0 399 v95) 404 r40) 399 4) = (v95 4) ∧ zR (v95 4) := (fun q => ⟨q, q ▸ Wd.rm _ _⟩) ((congrFun (zrow_ne (by decide)) _).trans (congrFun (zrow_same _ _ _) _))
            refine z_top (congrArg zI he10) ?_
            clear he10
            refine z_bipush C0 dX12_ticksOnce_113 (by decide) ?_
            refine z_isub C0 dX12_ticksOnce_115 ?_
            refine z_iconst C0 dX12_ticksOnce_116 ?_
            refine z_isub C0 dX12_ticksOnce_117 ?_
            refine z_invVi (As := [.int (zI (k95 : Int)), .int (zI (((v95 4) - 20) - 1))]) (rest := [.ref (ad 399)]) C0 Wd (ct_X12_heard l g ad (zrow (zrow zM0 399 v95) 404 r40) zF0 (k95 : Int) (zR_mk (by omega) (by omega)) (((v95 4) - 20) - 1) (by have q0 := hz8.1; have p0 := hz8.2; exact zR_mk (by omega) (by omega)) (by omega)) kv_X12_heard zN398 (zE_9 zK398) rfl zk_1936 rfl hl.1 rfl (Nat.le_of_ble_eq_true rfl) (by decide) (by decide) dX12_ticksOnce_118 (fun r11 zMr11 zFr11 H locs hrr11 hp Wd => ?_)
            obtain ⟨rfl, rfl, rfl⟩ := hp
            refine z_iconst C0 dX12_ticksOnce_121 ?_
            refine z_iast C0 Wd zN399 zK399 zL399 (by omega) (by omega) (by decide) (zR_mk (by decide) (by decide)) dX12_ticksOnce_122 (fun H locs Wd => ?_)
            replace Wd := zW.mem Wd (show _ = (zrow (zrow zM0 399 (zup v95 (472 + 128 * (k95 : Int) + (((v95 4) - 20) - 1) % 128) 0)) 404 r40) from ((zu_zrow_ne (by decide)).trans (zrow_c 404 r40 (zu_zrow zM0 399 v95 (472 + 128 * (k95 : Int) + (((v95 4) - 20) - 1) % 128) 0))))
            refine z_iinc C0 hl 1 (t := (k95 : Int)) (u := ((k95 : Int) + 1)) rfl (by omega) [(1, .int (zI ((k95 : Int) + 1))), (0, .ref (ad 398))] (by decide) rfl dX12_ticksOnce_123 (fun ls hl => ?_)
            refine z_goto C0 (tgt := 95) dX12_ticksOnce_126 (by decide) ?_
            exact ih95 (k95 + 1) (by omega) (zup v95 (472 + 128 * (k95 : Int) + (((v95 4) - 20) - 1) % 128) 0) (by show _ = zup (zfold (fun c W => zup W (472 + 128 * c + (W 4 - 20 - 1) % 128) 0) k95 (zup v40 4 (v40 4 + 1))) _ _; rw [← hv95]) _ _ _ Wd (lv_sub hl [1, 0] rfl)
      exact lp95 8 0 (by omega) (zup v40 4 (v40 4 + 1)) rfl _ _ _ Wd (lv_sub hl [1, 0] rfl)
    have lp40 : ∀ (d40 k40 : Nat) (hk40 : (k40 : Int) + d40 = (zM0 399 2)) (v40 : Int → Int) (r40 : Int → Int) (hv40 : v40 = zfold (fun p W => if W (96 + 47 * p + 4) = 100 ∧ W (96 + 47 * p + 6) = 5 then zDe p W else W) k40 v6) (H : Heap) (locs : List Loc) (ls : Array Slot) (Wd : zW g (zA 410 ad s.heap.size) s.heap 410 ad (zrow (zrow zM0 399 v40) 404 r40) zF0 H locs) (hl : lv_has ls 2 [(0, .ref (ad 398)), (1, .int (zI (k40 : Int)))]), W p l e (zrm 5 0 0) s m args below meth c H locs 0 0 (zMQ below g 410 ad (zPv (fun M' F' => (∃ r : Int → Int, (zrow (zrow zM0 399 (zTick (zM0 399))) 404 r) = M' ∧ zF0 = F'))) args s 0 0) (F0 m 40 ls []) := by
      intro d40
      induction d40 with
      | zero =>
        intro k40 hk40 v40 r40 hv40 H locs ls Wd hl
        obtain ⟨hI40, h40k, -⟩ := zTkC_keep hIB k40 (by omega)
        rw [← hv40] at hI40 h40k
        have e402 := (h40k 2 (by decide) (by decide) (by decide)).trans eB2
        refine z_iload_n C0 hl 1 rfl dX12_ticksOnce_40 ?_
        refine z_aload_n C0 hl 0 rfl dX12_ticksOnce_41 ?_
        refine zg_9_0 C0 Wd zN398 zK398 zk_1612 dX12_ticksOnce_42 ?_
        refine z_iconst C0 dX12_ticksOnce_45 ?_
        refine z_iald C0 Wd zN399 zK399 zL399 (by decide) (by decide) (by decide) dX12_ticksOnce_46 ?_
        obtain ⟨he15, hz13⟩ : ((zrow (zrow zM0 399 v40) 404 r40) 399 2) = (v40 2) ∧ zR (v40 2) := (fun q => ⟨q, q ▸ Wd.rm _ _⟩) ((congrFun (zrow_ne (by decide)) _).trans (congrFun (zrow_same _ _ _) _))
        refine z_top (congrArg zI he15) ?_
        clear he15
        refine z_icmp_ge C0 (tgt := 83) (zR_mk (by omega) (by omega)) hz13 dX12_ticksOnce_47 (by decide) (fun c16 => ?_) (fun c16 => ?_)
        · skip
          first | exact aft40 k40 (by omega) v40 r40 hv40 (by first | assumption | omega) _ _ _ Wd (lv_sub hl [0, 1] rfl) | (exfalso; omega)
        · skip
          exfalso; omega
      | succ d40 ih40 =>
        intro k40 hk40 v40 r40 hv40 H locs ls Wd hl
        obtain ⟨hI40, h40k, -⟩ := zTkC_keep hIB k40 (by omega)
        rw [← hv40] at hI40 h40k
        have e402 := (h40k 2 (by decide) (by decide) (by decide)).trans eB2
        refine z_iload_n C0 hl 1 rfl dX12_ticksOnce_40 ?_
        refine z_aload_n C0 hl 0 rfl dX12_ticksOnce_41 ?_
        refine zg_9_0 C0 Wd zN398 zK398 zk_1612 dX12_ticksOnce_42 ?_
        refine z_iconst C0 dX12_ticksOnce_45 ?_
        refine z_iald C0 Wd zN399 zK399 zL399 (by decide) (by decide) (by decide) dX12_ticksOnce_46 ?_
        obtain ⟨he19, hz17⟩ : ((zrow (zrow zM0 399 v40) 404 r40) 399 2) = (v40 2) ∧ zR (v40 2) := (fun q => ⟨q, q ▸ Wd.rm _ _⟩) ((congrFun (zrow_ne (by decide)) _).trans (congrFun (zrow_same _ _ _) _))
        refine z_top (congrArg zI he19) ?_
        clear he19
        refine z_icmp_ge C0 (tgt := 83) (zR_mk (by omega) (by omega)) hz17 dX12_ticksOnce_47 (by decide) (fun c20 => ?_) (fun c20 => ?_)
        · skip
          first | exact aft40 k40 (by omega) v40 r40 hv40 (by first | assumption | omega) _ _ _ Wd (lv_sub hl [0, 1] rfl) | (exfalso; omega)
        · skip
          refine z_aload_n C0 hl 0 rfl dX12_ticksOnce_50 ?_
          refine z_iload_n C0 hl 1 rfl dX12_ticksOnce_51 ?_
          refine z_iconst C0 dX12_ticksOnce_52 ?_
          refine z_invVi (As := [.int (zI (k40 : Int)), .int (zI 4)]) (rest := []) C0 Wd (ct_X12_of l g ad (zrow (zrow zM0 399 v40) 404 r40) zF0 (k40 : Int) (zR_mk (by omega) (by omega)) 4 (zR_mk (by decide) (by decide)) (by omega)) kv_X12_of zN398 (zE_9 zK398) rfl zk_1801 rfl hl.1 rfl (Nat.le_of_ble_eq_true rfl) (by decide) (by decide) dX12_ticksOnce_53 (fun r21 zMr21 zFr21 H locs hrr21 hp Wd => ?_)
          obtain ⟨rfl, rfl, rfl⟩ := hp
          refine z_top (show zI ((zrow (zrow zM0 399 v40) 404 r40) 399 (96 + 47 * (k40 : Int) + 4)) = zI (v40 (96 + 47 * (k40 : Int) + 4)) from rfl) ?_
          replace hrr21 : zR (v40 (96 + 47 * (k40 : Int) + 4)) := hrr21
          refine z_bipush C0 dX12_ticksOnce_56 (by decide) ?_
          refine z_icmp_ne C0 (tgt := 77) hrr21 (zR_mk (by decide) (by decide)) dX12_ticksOnce_58 (by decide) (fun c23 => ?_) (fun c23 => ?_)
          · skip
            refine z_iinc C0 hl 1 (t := (k40 : Int)) (u := ((k40 : Int) + 1)) rfl (by omega) [(1, .int (zI ((k40 : Int) + 1))), (0, .ref (ad 398))] (by decide) rfl dX12_ticksOnce_77 (fun ls hl => ?_)
            refine z_goto C0 (tgt := 40) dX12_ticksOnce_80 (by decide) ?_
            exact ih40 (k40 + 1) (by omega) v40 r40 (by show _ = (if _ then _ else _); rw [← hv40]; first | (rw [if_pos (by assumption)]; done) | (rw [if_neg (by assumption)]; done) | (rw [if_pos ⟨by assumption, by assumption⟩]; done) | (rw [if_neg (fun z => absurd z.2 (by assumption))]; done) | (rw [if_neg (fun z => absurd z.1 (by assumption))]; done)) _ _ _ Wd (lv_sub hl [1, 0] rfl)
          · skip
            refine z_aload_n C0 hl 0 rfl dX12_ticksOnce_61 ?_
            refine z_iload_n C0 hl 1 rfl dX12_ticksOnce_62 ?_
            refine z_bipush C0 dX12_ticksOnce_63 (by decide) ?_
            refine z_invVi (As := [.int (zI (k40 : Int)), .int (zI 6)]) (rest := []) C0 Wd (ct_X12_of l g ad (zrow (zrow zM0 399 v40) 404 r40) zF0 (k40 : Int) (zR_mk (by omega) (by omega)) 6 (zR_mk (by decide) (by decide)) (by omega)) kv_X12_of zN398 (zE_9 zK398) rfl zk_1801 rfl hl.1 rfl (Nat.le_of_ble_eq_true rfl) (by decide) (by decide) dX12_ticksOnce_65 (fun r24 zMr24 zFr24 H locs hrr24 hp Wd => ?_)
            obtain ⟨rfl, rfl, rfl⟩ := hp
            refine z_top (show zI ((zrow (zrow zM0 399 v40) 404 r40) 399 (96 + 47 * (k40 : Int) + 6)) = zI (v40 (96 + 47 * (k40 : Int) + 6)) from rfl) ?_
            replace hrr24 : zR (v40 (96 + 47 * (k40 : Int) + 6)) := hrr24
            refine z_iconst C0 dX12_ticksOnce_68 ?_
            refine z_icmp_ne C0 (tgt := 77) hrr24 (zR_mk (by decide) (by decide)) dX12_ticksOnce_69 (by decide) (fun c26 => ?_) (fun c26 => ?_)
            · skip
              refine z_iinc C0 hl 1 (t := (k40 : Int)) (u := ((k40 : Int) + 1)) rfl (by omega) [(1, .int (zI ((k40 : Int) + 1))), (0, .ref (ad 398))] (by decide) rfl dX12_ticksOnce_77 (fun ls hl => ?_)
              refine z_goto C0 (tgt := 40) dX12_ticksOnce_80 (by decide) ?_
              exact ih40 (k40 + 1) (by omega) v40 r40 (by show _ = (if _ then _ else _); rw [← hv40]; first | (rw [if_pos (by assumption)]; done) | (rw [if_neg (by assumption)]; done) | (rw [if_pos ⟨by assumption, by assumption⟩]; done) | (rw [if_neg (fun z => absurd z.2 (by assumption))]; done) | (rw [if_neg (fun z => absurd z.1 (by assumption))]; done)) _ _ _ Wd (lv_sub hl [1, 0] rfl)
            · skip
              refine z_aload_n C0 hl 0 rfl dX12_ticksOnce_72 ?_
              refine z_iload_n C0 hl 1 rfl dX12_ticksOnce_73 ?_
              refine z_invVv (As := [.int (zI (k40 : Int))]) (rest := []) C0 Wd (ct_X12_decides l g ad (zrow (zrow zM0 399 v40) 404 r40) zF0 (zt + (zBegs (zM0 399) 2).toNat + (k40 : Int)) (k40 : Int) (zR_mk (by omega) (by omega)) hI40 (by omega) (by show 0 ≤ (k40 : Int) ∧ (k40 : Int) < (v40 2); first | omega | assumption) (by assumption)) kv_X12_decides zN398 (zE_9 zK398) rfl zk_1940 rfl hl.1 rfl (Nat.le_of_ble_eq_true rfl) (by decide) (by decide) dX12_ticksOnce_74 (fun zMr27 zFr27 H locs hp Wd => ?_)
              rcases hp with ⟨r_r27, rfl, rfl⟩
              · skip
                replace Wd : zW g _ s.heap 410 ad (zrow (zrow (zrow (zrow zM0 399 v40) 404 r40) 399 (zDe (k40 : Int) v40)) 404 r_r27) _ H locs := Wd
                replace Wd := zW.mem Wd (show _ = (zrow (zrow zM0 399 (zDe (k40 : Int) v40)) 404 r_r27) from ((zrow_c 404 r_r27 (zrow_in (M := zM0) (i := 399) (j := 404) (v := v40) (r := r40) (by decide))).trans (zrow_twice (zrow zM0 399 (zDe (k40 : Int) v40)) 404 r40 r_r27)))
                refine z_iinc C0 hl 1 (t := (k40 : Int)) (u := ((k40 : Int) + 1)) rfl (by omega) [(1, .int (zI ((k40 : Int) + 1))), (0, .ref (ad 398))] (by decide) rfl dX12_ticksOnce_77 (fun ls hl => ?_)
                refine z_goto C0 (tgt := 40) dX12_ticksOnce_80 (by decide) ?_
                exact ih40 (k40 + 1) (by omega) (zDe (k40 : Int) v40) r_r27 (by show _ = (if _ then _ else _); rw [← hv40]; first | (rw [if_pos (by assumption)]; done) | (rw [if_neg (by assumption)]; done) | (rw [if_pos ⟨by assumption, by assumption⟩]; done) | (rw [if_neg (fun z => absurd z.2 (by assumption))]; done) | (rw [if_neg (fun z => absurd z.1 (by assumption))]; done)) _ _ _ Wd (lv_sub hl [1, 0] rfl)
    exact lp40 ((zM0 399 2)).toNat 0 (by omega) v6 r6 rfl _ _ _ Wd (lv_sub hl [1, 0] rfl)
  have lp6 : ∀ (d6 k6 : Nat) (hk6 : (k6 : Int) + d6 = (zM0 399 2)) (v6 : Int → Int) (r6 : Int → Int) (hv6 : v6 = zfold (fun p W => if W (96 + 47 * p + 4) = 100 then zDr p W else W) k6 (zBegs (zM0 399))) (H : Heap) (locs : List Loc) (ls : Array Slot) (Wd : zW g (zA 410 ad s.heap.size) s.heap 410 ad (zrow (zrow zM0 399 v6) 404 r6) zF0 H locs) (hl : lv_has ls 2 [(0, .ref (ad 398)), (1, .int (zI (k6 : Int)))]), W p l e (zrm 5 0 0) s m args below meth c H locs 0 0 (zMQ below g 410 ad (zPv (fun M' F' => (∃ r : Int → Int, (zrow (zrow zM0 399 (zTick (zM0 399))) 404 r) = M' ∧ zF0 = F'))) args s 0 0) (F0 m 6 ls []) := by
    intro d6
    induction d6 with
    | zero =>
      intro k6 hk6 v6 r6 hv6 H locs ls Wd hl
      obtain ⟨hI6, h6k, h6d⟩ := zTkB_keep hA1 hA2 k6 (by omega)
      rw [← hv6] at hI6 h6k h6d
      have e62 := (h6k 2 (by decide) (by decide)).trans eA2
      refine z_iload_n C0 hl 1 rfl dX12_ticksOnce_6 ?_
      refine z_aload_n C0 hl 0 rfl dX12_ticksOnce_7 ?_
      refine zg_9_0 C0 Wd zN398 zK398 zk_1612 dX12_ticksOnce_8 ?_
      refine z_iconst C0 dX12_ticksOnce_11 ?_
      refine z_iald C0 Wd zN399 zK399 zL399 (by decide) (by decide) (by decide) dX12_ticksOnce_12 ?_
      obtain ⟨he31, hz29⟩ : ((zrow (zrow zM0 399 v6) 404 r6) 399 2) = (v6 2) ∧ zR (v6 2) := (fun q => ⟨q, q ▸ Wd.rm _ _⟩) ((congrFun (zrow_ne (by decide)) _).trans (congrFun (zrow_same _ _ _) _))
      refine z_top (congrArg zI he31) ?_
      clear he31
      refine z_icmp_ge C0 (tgt := 38) (zR_mk (by omega) (by omega)) hz29 dX12_ticksOnce_13 (by decide) (fun c32 => ?_) (fun c32 => ?_)
      · skip
        first | exact aft6 k6 (by omega) v6 r6 hv6 (by first | assumption | omega) _ _ _ Wd (lv_sub hl [0, 1] rfl) | (exfalso; omega)
      · skip
        exfalso; omega
    | succ d6 ih6 =>
      intro k6 hk6 v6 r6 hv6 H locs ls Wd hl
      obtain ⟨hI6, h6k, h6d⟩ := zTkB_keep hA1 hA2 k6 (by omega)
      rw [← hv6] at hI6 h6k h6d
      have e62 := (h6k 2 (by decide) (by decide)).trans eA2
      refine z_iload_n C0 hl 1 rfl dX12_ticksOnce_6 ?_
      refine z_aload_n C0 hl 0 rfl dX12_ticksOnce_7 ?_
      refine zg_9_0 C0 Wd zN398 zK398 zk_1612 dX12_ticksOnce_8 ?_
      refine z_iconst C0 dX12_ticksOnce_11 ?_
      refine z_iald C0 Wd zN399 zK399 zL399 (by decide) (by decide) (by decide) dX12_ticksOnce_12 ?_
      obtain ⟨he35, hz33⟩ : ((zrow (zrow zM0 399 v6) 404 r6) 399 2) = (v6 2) ∧ zR (v6 2) := (fun q => ⟨q, q ▸ Wd.rm _ _⟩) ((congrFun (zrow_ne (by decide)) _).trans (congrFun (zrow_same _ _ _) _))
      refine z_top (congrArg zI he35) ?_
      clear he35
      refine z_icmp_ge C0 (tgt := 38) (zR_mk (by omega) (by omega)) hz33 dX12_ticksOnce_13 (by decide) (fun c36 => ?_) (fun c36 => ?_)
      · skip
        first | exact aft6 k6 (by omega) v6 r6 hv6 (by first | assumption | omega) _ _ _ Wd (lv_sub hl [0, 1] rfl) | (exfalso; omega)
      · skip
        refine z_aload_n C0 hl 0 rfl dX12_ticksOnce_16 ?_
        refine z_iload_n C0 hl 1 rfl dX12_ticksOnce_17 ?_
        refine z_iconst C0 dX12_ticksOnce_18 ?_
        refine z_invVi (As := [.int (zI (k6 : Int)), .int (zI 4)]) (rest := []) C0 Wd (ct_X12_of l g ad (zrow (zrow zM0 399 v6) 404 r6) zF0 (k6 : Int) (zR_mk (by omega) (by omega)) 4 (zR_mk (by decide) (by decide)) (by omega)) kv_X12_of zN398 (zE_9 zK398) rfl zk_1801 rfl hl.1 rfl (Nat.le_of_ble_eq_true rfl) (by decide) (by decide) dX12_ticksOnce_19 (fun r37 zMr37 zFr37 H locs hrr37 hp Wd => ?_)
        obtain ⟨rfl, rfl, rfl⟩ := hp
        refine z_top (show zI ((zrow (zrow zM0 399 v6) 404 r6) 399 (96 + 47 * (k6 : Int) + 4)) = zI (v6 (96 + 47 * (k6 : Int) + 4)) from rfl) ?_
        replace hrr37 : zR (v6 (96 + 47 * (k6 : Int) + 4)) := hrr37
        refine z_bipush C0 dX12_ticksOnce_22 (by decide) ?_
        refine z_icmp_ne C0 (tgt := 32) hrr37 (zR_mk (by decide) (by decide)) dX12_ticksOnce_24 (by decide) (fun c39 => ?_) (fun c39 => ?_)
        · skip
          refine z_iinc C0 hl 1 (t := (k6 : Int)) (u := ((k6 : Int) + 1)) rfl (by omega) [(1, .int (zI ((k6 : Int) + 1))), (0, .ref (ad 398))] (by decide) rfl dX12_ticksOnce_32 (fun ls hl => ?_)
          refine z_goto C0 (tgt := 6) dX12_ticksOnce_35 (by decide) ?_
          exact ih6 (k6 + 1) (by omega) v6 r6 (by show _ = (if _ then _ else _); rw [← hv6]; first | (rw [if_pos (by assumption)]; done) | (rw [if_neg (by assumption)]; done) | (rw [if_pos ⟨by assumption, by assumption⟩]; done) | (rw [if_neg (fun z => absurd z.2 (by assumption))]; done) | (rw [if_neg (fun z => absurd z.1 (by assumption))]; done)) _ _ _ Wd (lv_sub hl [1, 0] rfl)
        · skip
          refine z_aload_n C0 hl 0 rfl dX12_ticksOnce_27 ?_
          refine z_iload_n C0 hl 1 rfl dX12_ticksOnce_28 ?_
          refine z_invVv (As := [.int (zI (k6 : Int))]) (rest := []) C0 Wd (ct_X12_drumsBeat l g ad (zrow (zrow zM0 399 v6) 404 r6) zF0 (zt + (k6 : Int)) (k6 : Int) (zR_mk (by omega) (by omega)) hI6 (by omega) (by show 0 ≤ (k6 : Int) ∧ (k6 : Int) < (v6 2); first | omega | assumption) (h6d (k6 : Int) (by omega) (by omega) (by assumption))) kv_X12_drumsBeat zN398 (zE_9 zK398) rfl zk_1932 rfl hl.1 rfl (Nat.le_of_ble_eq_true rfl) (by decide) (by decide) dX12_ticksOnce_29 (fun zMr40 zFr40 H locs hp Wd => ?_)
          rcases hp with ⟨r_r40, rfl, rfl⟩
          · skip
            replace Wd : zW g _ s.heap 410 ad (zrow (zrow (zrow (zrow zM0 399 v6) 404 r6) 399 (zDr (k6 : Int) v6)) 404 r_r40) _ H locs := Wd
            replace Wd := zW.mem Wd (show _ = (zrow (zrow zM0 399 (zDr (k6 : Int) v6)) 404 r_r40) from ((zrow_c 404 r_r40 (zrow_in (M := zM0) (i := 399) (j := 404) (v := v6) (r := r6) (by decide))).trans (zrow_twice (zrow zM0 399 (zDr (k6 : Int) v6)) 404 r6 r_r40)))
            refine z_iinc C0 hl 1 (t := (k6 : Int)) (u := ((k6 : Int) + 1)) rfl (by omega) [(1, .int (zI ((k6 : Int) + 1))), (0, .ref (ad 398))] (by decide) rfl dX12_ticksOnce_32 (fun ls hl => ?_)
            refine z_goto C0 (tgt := 6) dX12_ticksOnce_35 (by decide) ?_
            exact ih6 (k6 + 1) (by omega) (zDr (k6 : Int) v6) r_r40 (by show _ = (if _ then _ else _); rw [← hv6]; first | (rw [if_pos (by assumption)]; done) | (rw [if_neg (by assumption)]; done) | (rw [if_pos ⟨by assumption, by assumption⟩]; done) | (rw [if_neg (fun z => absurd z.2 (by assumption))]; done) | (rw [if_neg (fun z => absurd z.1 (by assumption))]; done)) _ _ _ Wd (lv_sub hl [1, 0] rfl)
  exact lp6 ((zM0 399 2)).toNat 0 (by omega) (zBegs (zM0 399)) (zM0 404) rfl _ _ _ Wd (lv_sub hl [1, 0] rfl)
