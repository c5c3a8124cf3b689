/-! the model: a tick -/
theorem kv_X12_drumsBeat : zKV yX12_drumsBeat cX12_drumsBeat 6 none "DrumWarrenModel" 1 := ⟨zk_1935, zk_1934, zk_51, zk_80, by decide, by decide, by decide +kernel⟩
set_option maxHeartbeats 4000000 in
set_option maxRecDepth 100000 in
theorem ct_X12_drumsBeat (l : Launch) (g : zG) (ad : Int → Nat) (zM0 zF0 : zMem) (zt : Int) (x0 : Int) (hx0 : zR x0) (hV : zIV zt (zM0 399)) (ht : zt ≤ 100000000) (hp : 0 ≤ x0 ∧ x0 < zM0 399 2) (hd : zM0 399 (96 + 47 * x0 + 6) ≤ 4) : zMt l yX12_drumsBeat cX12_drumsBeat 6 none 3 0 0 g 410 ad [.ref (ad 398), .int (zI x0)] zM0 zF0 (zPv (fun M' F' => (∃ r : Int → Int, (zrow (zrow zM0 399 (zDr x0 (zM0 399))) 404 r) = M' ∧ zF0 = F'))) := by
  refine zMt.of "DrumWarrenModel" rfl (by decide) (Nat.le_of_ble_eq_true rfl) (fun {p e s m args below meth c ls} C0 Wd hl hret hlk hin => ?_)
  have hl : lv_has ls 6 [(0, .ref (ad 398)), (1, .int (zI x0))] := hl
  obtain ⟨hc0, hc1, hc2, hcs, hT, hH, hM, hR⟩ := id hV
  obtain ⟨m0, m1, m2, m3, -, m5, -, m7, -⟩ := hM x0 hp.1 hp.2
  have hs5 := hcs 5 (by decide) (by decide)
  have hs4 := hcs 4 (by decide) (by decide)
  have hm1 := (hH _ m1.1 m1.2).1
  replace Wd : zW g _ s.heap 410 ad (zrow (zrow zM0 399 (zM0 399)) 404 (zM0 404)) _ s.heap [] := (by rw [zrows_eta (by decide)]; exact Wd)
  refine z_aload_n C0 hl 0 rfl dX12_drumsBeat_0 ?_
  refine z_iload_n C0 hl 1 rfl dX12_drumsBeat_1 ?_
  refine z_bipush C0 dX12_drumsBeat_2 (by decide) ?_
  refine z_invVi (As := [.int (zI x0), .int (zI 6)]) (rest := []) C0 Wd (ct_X12_of l g ad (zrow (zrow zM0 399 (zM0 399)) 404 (zM0 404)) zF0 x0 hx0 6 (zR_mk (by decide) (by decide)) (by omega)) kv_X12_of zN398 (zE_9 zK398) rfl zk_1801 rfl hl.1 rfl (Nat.le_of_ble_eq_true rfl) (by decide) (by decide) dX12_drumsBeat_4 (fun r1 zMr1 zFr1 H locs hrr1 hp Wd => ?_)
  obtain ⟨rfl, rfl, rfl⟩ := hp
  refine z_top (show zI ((zrow (zrow zM0 399 (zM0 399)) 404 (zM0 404)) 399 (96 + 47 * x0 + 6)) = zI ((zM0 399) (96 + 47 * x0 + 6)) from rfl) ?_
  replace hrr1 : zR ((zM0 399) (96 + 47 * x0 + 6)) := hrr1
  refine z_istore_n C0 hl [(2, .int (zI ((zM0 399) (96 + 47 * x0 + 6)))), (0, .ref (ad 398)), (1, .int (zI x0))] (by decide) rfl dX12_drumsBeat_7 (fun ls hl => ?_)
  refine z_aload_n C0 hl 1 rfl dX12_drumsBeat_8 ?_
  refine z_iload_n C0 hl 2 rfl dX12_drumsBeat_9 ?_
  refine z_bipush C0 dX12_drumsBeat_10 (by decide) ?_
  refine z_iload_n C0 hl 0 rfl dX12_drumsBeat_12 ?_
  refine z_iconst C0 dX12_drumsBeat_13 ?_
  refine z_iadd C0 dX12_drumsBeat_14 ?_
  refine z_invVv (As := [.int (zI x0), .int (zI 6), .int (zI (((zM0 399) (96 + 47 * x0 + 6)) + 1))]) (rest := []) C0 Wd (ct_X12_sets l g ad (zrow (zrow zM0 399 (zM0 399)) 404 (zM0 404)) zF0 x0 hx0 6 (zR_mk (by decide) (by decide)) (((zM0 399) (96 + 47 * x0 + 6)) + 1) (by have q0 := hrr1.1; have p0 := hrr1.2; exact zR_mk (by omega) (by omega)) (by omega)) kv_X12_sets zN398 (zE_9 zK398) rfl zk_1853 rfl hl.1 rfl (Nat.le_of_ble_eq_true rfl) (by decide) (by decide) dX12_drumsBeat_15 (fun zMr3 zFr3 H locs hp Wd => ?_)
  obtain ⟨rfl, rfl⟩ := hp
  replace Wd := zW.mem Wd (show _ = (zrow (zrow zM0 399 (zup (zM0 399) (96 + 47 * x0 + 6) (((zM0 399) (96 + 47 * x0 + 6)) + 1))) 404 (zM0 404)) from ((zu_zrow_ne (by decide)).trans (zrow_c 404 (zM0 404) (zu_zrow zM0 399 (zM0 399) (96 + 47 * x0 + 6) (((zM0 399) (96 + 47 * x0 + 6)) + 1)))))
  refine z_aload_n C0 hl 1 rfl dX12_drumsBeat_18 ?_
  refine z_iload_n C0 hl 2 rfl dX12_drumsBeat_19 ?_
  refine z_iconst C0 dX12_drumsBeat_20 ?_
  refine z_invVi (As := [.int (zI x0), .int (zI 3)]) (rest := []) C0 Wd (ct_X12_of l g ad (zrow (zrow zM0 399 (zup (zM0 399) (96 + 47 * x0 + 6) (((zM0 399) (96 + 47 * x0 + 6)) + 1))) 404 (zM0 404)) zF0 x0 hx0 3 (zR_mk (by decide) (by decide)) (by omega)) kv_X12_of zN398 (zE_9 zK398) rfl zk_1801 rfl hl.1 rfl (Nat.le_of_ble_eq_true rfl) (by decide) (by decide) dX12_drumsBeat_21 (fun r5 zMr5 zFr5 H locs hrr5 hp Wd => ?_)
  obtain ⟨rfl, rfl, rfl⟩ := hp
  refine z_top (show zI ((zrow (zrow zM0 399 (zup (zM0 399) (96 + 47 * x0 + 6) (((zM0 399) (96 + 47 * x0 + 6)) + 1))) 404 (zM0 404)) 399 (96 + 47 * x0 + 3)) = zI ((zup (zM0 399) (96 + 47 * x0 + 6) (((zM0 399) (96 + 47 * x0 + 6)) + 1)) (96 + 47 * x0 + 3)) from rfl) ?_
  replace hrr5 : zR ((zup (zM0 399) (96 + 47 * x0 + 6) (((zM0 399) (96 + 47 * x0 + 6)) + 1)) (96 + 47 * x0 + 3)) := hrr5
  obtain ⟨he8, hrr5⟩ : ((zup (zM0 399) (96 + 47 * x0 + 6) (((zM0 399) (96 + 47 * x0 + 6)) + 1)) (96 + 47 * x0 + 3)) = ((zM0 399) (96 + 47 * x0 + 3)) ∧ zR ((zM0 399) (96 + 47 * x0 + 3)) := (fun q => ⟨q, q ▸ hrr5⟩) (zup_ne (by omega))
  refine z_top (congrArg zI he8) ?_
  clear he8
  refine z_iload_n C0 hl 0 rfl dX12_drumsBeat_24 ?_
  refine z_invSi (As := [.int (zI ((zM0 399) (96 + 47 * x0 + 3))), .int (zI ((zM0 399) (96 + 47 * x0 + 6)))]) (rest := []) C0 Wd (ct_X12_beat l g ad (zrow (zrow zM0 399 (zup (zM0 399) (96 + 47 * x0 + 6) (((zM0 399) (96 + 47 * x0 + 6)) + 1))) 404 (zM0 404)) zF0 ((zM0 399) (96 + 47 * x0 + 3)) hrr5 ((zM0 399) (96 + 47 * x0 + 6)) hrr1 (by omega) (by omega)) kv_X12_beat zk_1905 rfl hl.1 rfl (Nat.le_of_ble_eq_true rfl) (by decide) (by decide) dX12_drumsBeat_25 (fun r9 zMr9 zFr9 H locs hrr9 hp Wd => ?_)
  obtain ⟨rfl, rfl, rfl⟩ := hp
  refine z_if_ne C0 (tgt := 32) hrr9 dX12_drumsBeat_28 (by decide) (fun c11 => ?_) (fun c11 => ?_)
  · skip
    refine z_aload_n C0 hl 1 rfl dX12_drumsBeat_32 ?_
    refine zg_9_0 C0 Wd zN398 zK398 zk_1612 dX12_drumsBeat_33 ?_
    refine z_iconst C0 dX12_drumsBeat_36 ?_
    refine z_dup2 C0 rfl rfl dX12_drumsBeat_37 ?_
    refine z_iald C0 Wd zN399 zK399 zL399 (by decide) (by decide) (by decide) dX12_drumsBeat_38 ?_
    obtain ⟨he14, hz12⟩ : ((zrow (zrow zM0 399 (zup (zM0 399) (96 + 47 * x0 + 6) (((zM0 399) (96 + 47 * x0 + 6)) + 1))) 404 (zM0 404)) 399 5) = ((zM0 399) 5) ∧ zR ((zM0 399) 5) := (fun q => ⟨q, q ▸ Wd.rm _ _⟩) ((congrFun (zrow_ne (by decide)) _).trans ((congrFun (zrow_same _ _ _) _).trans (zup_ne (by omega))))
    refine z_top (congrArg zI he14) ?_
    clear he14
    refine z_iconst C0 dX12_drumsBeat_39 ?_
    refine z_iadd C0 dX12_drumsBeat_40 ?_
    refine z_iast C0 Wd zN399 zK399 zL399 (by decide) (by decide) (by decide) (by have q0 := hz12.1; have p0 := hz12.2; exact zR_mk (by omega) (by omega)) dX12_drumsBeat_41 (fun H locs Wd => ?_)
    replace Wd := zW.mem Wd (show _ = (zrow (zrow zM0 399 (zup (zup (zM0 399) (96 + 47 * x0 + 6) (((zM0 399) (96 + 47 * x0 + 6)) + 1)) 5 (((zM0 399) 5) + 1))) 404 (zM0 404)) from ((zu_zrow_ne (by decide)).trans (zrow_c 404 (zM0 404) (zu_zrow zM0 399 (zup (zM0 399) (96 + 47 * x0 + 6) (((zM0 399) (96 + 47 * x0 + 6)) + 1)) 5 (((zM0 399) 5) + 1)))))
    refine z_aload_n C0 hl 1 rfl dX12_drumsBeat_42 ?_
    refine z_aload_n C0 hl 1 rfl dX12_drumsBeat_43 ?_
    refine z_iload_n C0 hl 2 rfl dX12_drumsBeat_44 ?_
    refine z_invVi (As := [.int (zI x0)]) (rest := [.ref (ad 398)]) C0 Wd (ct_X12_homeOf l g ad (zrow (zrow zM0 399 (zup (zup (zM0 399) (96 + 47 * x0 + 6) (((zM0 399) (96 + 47 * x0 + 6)) + 1)) 5 (((zM0 399) 5) + 1))) 404 (zM0 404)) zF0 x0 hx0 (by omega) (by show 0 ≤ zDr2 x0 (zM0 399) (96 + 47 * x0 + 1) ∧ zDr2 x0 (zM0 399) (96 + 47 * x0 + 1) < 6; rw [(zDr2_kp (Or.inr ⟨x0, 1, rfl, by omega, by omega, by omega, by omega, Or.inr (by omega)⟩) hp.1).2]; omega)) kv_X12_homeOf zN398 (zE_9 zK398) rfl zk_1928 rfl hl.1 rfl (Nat.le_of_ble_eq_true rfl) (by decide) (by decide) dX12_drumsBeat_45 (fun r15 zMr15 zFr15 H locs hrr15 hp Wd => ?_)
    obtain ⟨rfl, rfl, rfl⟩ := hp
    refine z_top (show zI ((zrow (zrow zM0 399 (zup (zup (zM0 399) (96 + 47 * x0 + 6) (((zM0 399) (96 + 47 * x0 + 6)) + 1)) 5 (((zM0 399) 5) + 1))) 404 (zM0 404)) 399 (72 + 4 * ((zrow (zrow zM0 399 (zup (zup (zM0 399) (96 + 47 * x0 + 6) (((zM0 399) (96 + 47 * x0 + 6)) + 1)) 5 (((zM0 399) 5) + 1))) 404 (zM0 404)) 399 (96 + 47 * x0 + 1)) + 0)) = zI ((zup (zup (zM0 399) (96 + 47 * x0 + 6) (((zM0 399) (96 + 47 * x0 + 6)) + 1)) 5 (((zM0 399) 5) + 1)) (72 + 4 * ((zup (zup (zM0 399) (96 + 47 * x0 + 6) (((zM0 399) (96 + 47 * x0 + 6)) + 1)) 5 (((zM0 399) 5) + 1)) (96 + 47 * x0 + 1)) + 0)) from rfl) ?_
    replace hrr15 : zR ((zup (zup (zM0 399) (96 + 47 * x0 + 6) (((zM0 399) (96 + 47 * x0 + 6)) + 1)) 5 (((zM0 399) 5) + 1)) (72 + 4 * ((zup (zup (zM0 399) (96 + 47 * x0 + 6) (((zM0 399) (96 + 47 * x0 + 6)) + 1)) 5 (((zM0 399) 5) + 1)) (96 + 47 * x0 + 1)) + 0)) := hrr15
    refine z_invVv (As := [.int (zI ((zup (zup (zM0 399) (96 + 47 * x0 + 6) (((zM0 399) (96 + 47 * x0 + 6)) + 1)) 5 (((zM0 399) 5) + 1)) (72 + 4 * ((zup (zup (zM0 399) (96 + 47 * x0 + 6) (((zM0 399) (96 + 47 * x0 + 6)) + 1)) 5 (((zM0 399) 5) + 1)) (96 + 47 * x0 + 1)) + 0)))]) (rest := []) C0 Wd (ct_X12_finds l g ad (zrow (zrow zM0 399 (zup (zup (zM0 399) (96 + 47 * x0 + 6) (((zM0 399) (96 + 47 * x0 + 6)) + 1)) 5 (((zM0 399) 5) + 1))) 404 (zM0 404)) zF0 ((zup (zup (zM0 399) (96 + 47 * x0 + 6) (((zM0 399) (96 + 47 * x0 + 6)) + 1)) 5 (((zM0 399) 5) + 1)) (72 + 4 * ((zup (zup (zM0 399) (96 + 47 * x0 + 6) (((zM0 399) (96 + 47 * x0 + 6)) + 1)) 5 (((zM0 399) 5) + 1)) (96 + 47 * x0 + 1)) + 0)) hrr15 (fun i h0 h1 => by show 0 ≤ zDr2 x0 (zM0 399) i ∧ zDr2 x0 (zM0 399) i ≤ 9; rw [zDr2_T hp.1 h0 h1]; exact hT i h0 h1)) kv_X12_finds zN398 (zE_9 zK398) rfl zk_1741 rfl hl.1 rfl (Nat.le_of_ble_eq_true rfl) (by decide) (by decide) dX12_drumsBeat_48 (fun zMr17 zFr17 H locs hp Wd => ?_)
    rcases hp with ⟨r_r17, hr17_0_0, rfl, rfl⟩
    · skip
      replace Wd := zW.mem Wd (show _ = (zrow (zrow zM0 399 (zup (zup (zM0 399) (96 + 47 * x0 + 6) (((zM0 399) (96 + 47 * x0 + 6)) + 1)) 5 (((zM0 399) 5) + 1))) 404 r_r17) from (zrow_twice (zrow zM0 399 (zup (zup (zM0 399) (96 + 47 * x0 + 6) (((zM0 399) (96 + 47 * x0 + 6)) + 1)) 5 (((zM0 399) 5) + 1))) 404 (zM0 404) r_r17))
      replace hr17_0_0 : ∀ j, 0 ≤ j → j < 8 → r_r17 j = zBF (zup (zup (zM0 399) (96 + 47 * x0 + 6) (((zM0 399) (96 + 47 * x0 + 6)) + 1)) 5 (((zM0 399) 5) + 1)) ((zup (zup (zM0 399) (96 + 47 * x0 + 6) (((zM0 399) (96 + 47 * x0 + 6)) + 1)) 5 (((zM0 399) 5) + 1)) (72 + 4 * ((zup (zup (zM0 399) (96 + 47 * x0 + 6) (((zM0 399) (96 + 47 * x0 + 6)) + 1)) 5 (((zM0 399) 5) + 1)) (96 + 47 * x0 + 1)) + 0)) j := hr17_0_0
      refine z_iconst C0 dX12_drumsBeat_51 ?_
      refine z_istore_n C0 hl [(3, .int (zI 0)), (2, .int (zI ((zM0 399) (96 + 47 * x0 + 6)))), (0, .ref (ad 398)), (1, .int (zI x0))] (by decide) rfl dX12_drumsBeat_52 (fun ls hl => ?_)
      have aft53 : ∀ (k53 : Nat) (hk53 : (k53 : Int) ≤ (zM0 399 0)) (v53 : Int → Int) (hv : v53 = zfold (fun c W => zHear x0 (zM0 399 (96 + 47 * x0 + 6)) (zBF (zDr2 x0 (zM0 399)) (zhm (zDr2 x0 (zM0 399)) x0)) c W) k53 (zDr2 x0 (zM0 399))) (hx53 : (k53 : Int) = (zM0 399 0)) (H : Heap) (locs : List Loc) (ls : Array Slot) (Wd : zW g (zA 410 ad s.heap.size) s.heap 410 ad (zrow (zrow zM0 399 v53) 404 r_r17) zF0 H locs) (hl : lv_has ls 6 [(0, .ref (ad 398)), (1, .int (zI x0)), (2, .int (zI ((zM0 399) (96 + 47 * x0 + 6)))), (3, .int (zI (k53 : Int)))]), W p l e (zrm 3 0 0) s m args below meth c H locs 0 0 (zMQ below g 410 ad (zPv (fun M' F' => (∃ r : Int → Int, (zrow (zrow zM0 399 (zDr x0 (zM0 399))) 404 r) = M' ∧ zF0 = F'))) args s 0 0) (F0 m 155 ls []) := by
        intro k53 hk53 v53 hv hx53 H locs ls Wd hl
        replace hl : lv_has ls 6 [(0, .ref (ad 398)), (1, .int (zI x0)), (2, .int (zI ((zM0 399) (96 + 47 * x0 + 6))))] := lv_sub hl [0, 1, 2] rfl
        have e3k : (zM0 399 0).toNat = k53 := by omega
        exact z_vret C0 Wd hret hlk ⟨_, by rw [zDr, if_neg (by assumption), e3k, ← hv], rfl⟩ dX12_drumsBeat_155
      have lp53 : ∀ (d53 k53 : Nat) (hk53 : (k53 : Int) + d53 = (zM0 399 0)) (v53 : Int → Int) (hv : v53 = zfold (fun c W => zHear x0 (zM0 399 (96 + 47 * x0 + 6)) (zBF (zDr2 x0 (zM0 399)) (zhm (zDr2 x0 (zM0 399)) x0)) c W) k53 (zDr2 x0 (zM0 399))) (H : Heap) (locs : List Loc) (ls : Array Slot) (Wd : zW g (zA 410 ad s.heap.size) s.heap 410 ad (zrow (zrow zM0 399 v53) 404 r_r17) zF0 H locs) (hl : lv_has ls 6 [(0, .ref (ad 398)), (1, .int (zI x0)), (2, .int (zI ((zM0 399) (96 + 47 * x0 + 6)))), (3, .int (zI (k53 : Int)))]), W p l e (zrm 3 0 0) s m args below meth c H locs 0 0 (zMQ below g 410 ad (zPv (fun M' F' => (∃ r : Int → Int, (zrow (zrow zM0 399 (zDr x0 (zM0 399))) 404 r) = M' ∧ zF0 = F'))) args s 0 0) (F0 m 53 ls []) := by
        intro d53
        induction d53 with
        | zero =>
          intro k53 hk53 v53 hv H locs ls Wd hl
          obtain ⟨hI3, hk3⟩ := zDrF_keep hV hp hd k53 (by omega)
          rw [← hv] at hI3 hk3
          have e30 : v53 0 = zM0 399 0 := (hk3 0 (Or.inl ⟨by decide, by decide⟩)).trans (zDr2_kp (Or.inl ⟨by decide, by decide⟩) hp.1).2
          have e34 : v53 4 = zM0 399 4 := (hk3 4 (Or.inl ⟨by decide, by decide⟩)).trans (zDr2_kp (Or.inl ⟨by decide, by decide⟩) hp.1).2
          refine z_iload_n C0 hl 3 rfl dX12_drumsBeat_53 ?_
          refine z_aload_n C0 hl 0 rfl dX12_drumsBeat_54 ?_
          refine zg_9_0 C0 Wd zN398 zK398 zk_1612 dX12_drumsBeat_55 ?_
          refine z_iconst C0 dX12_drumsBeat_58 ?_
          refine z_iald C0 Wd zN399 zK399 zL399 (by decide) (by decide) (by decide) dX12_drumsBeat_59 ?_
          obtain ⟨he21, hz19⟩ : ((zrow (zrow zM0 399 v53) 404 r_r17) 399 0) = (v53 0) ∧ zR (v53 0) := (fun q => ⟨q, q ▸ Wd.rm _ _⟩) ((congrFun (zrow_ne (by decide)) _).trans (congrFun (zrow_same _ _ _) _))
          refine z_top (congrArg zI he21) ?_
          clear he21
          refine z_icmp_ge C0 (tgt := 155) (zR_mk (by omega) (by omega)) hz19 dX12_drumsBeat_60 (by decide) (fun c22 => ?_) (fun c22 => ?_)
          · skip
            first | exact aft53 k53 (by omega) v53 hv (by first | assumption | omega) _ _ _ Wd (lv_sub hl [0, 1, 2, 3] rfl) | (exfalso; omega)
          · skip
            exfalso; omega
        | succ d53 ih53 =>
          intro k53 hk53 v53 hv H locs ls Wd hl
          obtain ⟨hI3, hk3⟩ := zDrF_keep hV hp hd k53 (by omega)
          rw [← hv] at hI3 hk3
          have e30 : v53 0 = zM0 399 0 := (hk3 0 (Or.inl ⟨by decide, by decide⟩)).trans (zDr2_kp (Or.inl ⟨by decide, by decide⟩) hp.1).2
          have e34 : v53 4 = zM0 399 4 := (hk3 4 (Or.inl ⟨by decide, by decide⟩)).trans (zDr2_kp (Or.inl ⟨by decide, by decide⟩) hp.1).2
          refine z_iload_n C0 hl 3 rfl dX12_drumsBeat_53 ?_
          refine z_aload_n C0 hl 0 rfl dX12_drumsBeat_54 ?_
          refine zg_9_0 C0 Wd zN398 zK398 zk_1612 dX12_drumsBeat_55 ?_
          refine z_iconst C0 dX12_drumsBeat_58 ?_
          refine z_iald C0 Wd zN399 zK399 zL399 (by decide) (by decide) (by decide) dX12_drumsBeat_59 ?_
          obtain ⟨he25, hz23⟩ : ((zrow (zrow zM0 399 v53) 404 r_r17) 399 0) = (v53 0) ∧ zR (v53 0) := (fun q => ⟨q, q ▸ Wd.rm _ _⟩) ((congrFun (zrow_ne (by decide)) _).trans (congrFun (zrow_same _ _ _) _))
          refine z_top (congrArg zI he25) ?_
          clear he25
          refine z_icmp_ge C0 (tgt := 155) (zR_mk (by omega) (by omega)) hz23 dX12_drumsBeat_60 (by decide) (fun c26 => ?_) (fun c26 => ?_)
          · skip
            first | exact aft53 k53 (by omega) v53 hv (by first | assumption | omega) _ _ _ Wd (lv_sub hl [0, 1, 2, 3] rfl) | (exfalso; omega)
          · skip
            have hn : r_r17 (k53 : Int) = zBF (zDr2 x0 (zM0 399)) (zhm (zDr2 x0 (zM0 399)) x0) (k53 : Int) := hr17_0_0 (k53 : Int) (by omega) (by omega)
            have hnb : 0 ≤ r_r17 (k53 : Int) ∧ r_r17 (k53 : Int) ≤ 1000 := by rw [hn]; exact zBF_bd (V := zDr2 x0 (zM0 399)) (a := zhm (zDr2 x0 (zM0 399)) x0) (fun i h0 h1 => by rw [zDr2_T hp.1 h0 h1]; exact hT i h0 h1) (k53 : Int) (by omega) (by omega)
            refine z_aload_n C0 hl 0 rfl dX12_drumsBeat_63 ?_
            refine zg_9_7 C0 Wd zN398 zK398 zk_1619 dX12_drumsBeat_64 ?_
            refine z_iload_n C0 hl 3 rfl dX12_drumsBeat_67 ?_
            refine z_iald C0 Wd zN404 zK404 zL404 (by omega) (by omega) (by decide) dX12_drumsBeat_68 ?_
            obtain ⟨he29, hz27⟩ : ((zrow (zrow zM0 399 v53) 404 r_r17) 404 (k53 : Int)) = (r_r17 (k53 : Int)) ∧ zR (r_r17 (k53 : Int)) := (fun q => ⟨q, q ▸ Wd.rm _ _⟩) (congrFun (zrow_same _ _ _) _)
            refine z_top (congrArg zI he29) ?_
            clear he29
            refine z_sipush C0 dX12_drumsBeat_69 (by decide) ?_
            refine z_icmp_ge C0 (tgt := 79) hz27 (zR_mk (by decide) (by decide)) dX12_drumsBeat_72 (by decide) (fun c30 => ?_) (fun c30 => ?_)
            · skip
              refine z_iconst C0 dX12_drumsBeat_79 ?_
              refine z_istore C0 hl [(4, .int (zI 0)), (0, .ref (ad 398)), (1, .int (zI x0)), (2, .int (zI ((zM0 399) (96 + 47 * x0 + 6)))), (3, .int (zI (k53 : Int)))] (by decide) rfl dX12_drumsBeat_80 (fun ls hl => ?_)
              refine z_aload_n C0 hl 1 rfl dX12_drumsBeat_82 ?_
              refine zg_9_0 C0 Wd zN398 zK398 zk_1612 dX12_drumsBeat_83 ?_
              refine z_iconst C0 dX12_drumsBeat_86 ?_
              refine z_iald C0 Wd zN399 zK399 zL399 (by decide) (by decide) (by decide) dX12_drumsBeat_87 ?_
              obtain ⟨he33, hz31⟩ : ((zrow (zrow zM0 399 v53) 404 r_r17) 399 4) = (v53 4) ∧ zR (v53 4) := (fun q => ⟨q, q ▸ Wd.rm _ _⟩) ((congrFun (zrow_ne (by decide)) _).trans (congrFun (zrow_same _ _ _) _))
              refine z_top (congrArg zI he33) ?_
              clear he33
              refine z_aload_n C0 hl 1 rfl dX12_drumsBeat_88 ?_
              refine zg_9_7 C0 Wd zN398 zK398 zk_1619 dX12_drumsBeat_89 ?_
              refine z_iload_n C0 hl 4 rfl dX12_drumsBeat_92 ?_
              refine z_iald C0 Wd zN404 zK404 zL404 (by omega) (by omega) (by decide) dX12_drumsBeat_93 ?_
              obtain ⟨he36, hz34⟩ : ((zrow (zrow zM0 399 v53) 404 r_r17) 404 (k53 : Int)) = (r_r17 (k53 : Int)) ∧ zR (r_r17 (k53 : Int)) := (fun q => ⟨q, q ▸ Wd.rm _ _⟩) (congrFun (zrow_same _ _ _) _)
              refine z_top (congrArg zI he36) ?_
              clear he36
              refine z_iadd C0 dX12_drumsBeat_94 ?_
              refine z_istore C0 hl [(5, .int (zI ((v53 4) + (r_r17 (k53 : Int))))), (4, .int (zI 0)), (0, .ref (ad 398)), (1, .int (zI x0)), (2, .int (zI ((zM0 399) (96 + 47 * x0 + 6)))), (3, .int (zI (k53 : Int)))] (by decide) rfl dX12_drumsBeat_95 (fun ls hl => ?_)
              refine z_aload_n C0 hl 2 rfl dX12_drumsBeat_97 ?_
              refine z_iload_n C0 hl 3 rfl dX12_drumsBeat_98 ?_
              refine z_bipush C0 dX12_drumsBeat_99 (by decide) ?_
              refine z_bipush C0 dX12_drumsBeat_101 (by decide) ?_
              refine z_iload_n C0 hl 4 rfl dX12_drumsBeat_103 ?_
              refine z_imul C0 dX12_drumsBeat_104 ?_
              refine z_iadd C0 dX12_drumsBeat_105 ?_
              refine z_iload_n C0 hl 5 rfl dX12_drumsBeat_106 ?_
              refine z_iadd C0 dX12_drumsBeat_107 ?_
              refine z_iload C0 hl 1 rfl dX12_drumsBeat_108 ?_
              refine z_if_eq C0 (tgt := 120) (zR_mk (by decide) (by decide)) dX12_drumsBeat_110 (by decide) (fun _ => ?_) (fun h => absurd h (by decide))
              refine z_iconst C0 dX12_drumsBeat_120 ?_
              refine z_invVv (As := [.int (zI x0), .int (zI ((7 + (8 * ((zM0 399) (96 + 47 * x0 + 6)))) + (k53 : Int))), .int (zI 0)]) (rest := []) C0 Wd (ct_X12_sets l g ad (zrow (zrow zM0 399 v53) 404 r_r17) zF0 x0 hx0 ((7 + (8 * ((zM0 399) (96 + 47 * x0 + 6)))) + (k53 : Int)) (by have q0 := hrr1.1; have p0 := hrr1.2; exact zR_mk (by omega) (by omega)) 0 (zR_mk (by decide) (by decide)) (by omega)) kv_X12_sets zN398 (zE_9 zK398) rfl zk_1853 rfl hl.1 rfl (Nat.le_of_ble_eq_true rfl) (by decide) (by decide) dX12_drumsBeat_121 (fun zMr38 zFr38 H locs hp Wd => ?_)
              obtain ⟨rfl, rfl⟩ := hp
              replace Wd := zW.mem Wd (show _ = (zrow (zrow zM0 399 (zup v53 (96 + 47 * x0 + ((7 + (8 * ((zM0 399) (96 + 47 * x0 + 6)))) + (k53 : Int))) 0)) 404 r_r17) from ((zu_zrow_ne (by decide)).trans (zrow_c 404 r_r17 (zu_zrow zM0 399 v53 (96 + 47 * x0 + ((7 + (8 * ((zM0 399) (96 + 47 * x0 + 6)))) + (k53 : Int))) 0))))
              refine z_aload_n C0 hl 2 rfl dX12_drumsBeat_124 ?_
              refine zg_9_0 C0 Wd zN398 zK398 zk_1612 dX12_drumsBeat_125 ?_
              refine z_aload_n C0 hl 2 rfl dX12_drumsBeat_128 ?_
              refine z_iload_n C0 hl 5 rfl dX12_drumsBeat_129 ?_
              refine z_iload C0 hl 0 rfl dX12_drumsBeat_130 ?_
              refine z_invVi (As := [.int (zI (k53 : Int)), .int (zI ((v53 4) + (r_r17 (k53 : Int))))]) (rest := [.ref (ad 399)]) C0 Wd (ct_X12_heard l g ad (zrow (zrow zM0 399 (zup v53 (96 + 47 * x0 + ((7 + (8 * ((zM0 399) (96 + 47 * x0 + 6)))) + (k53 : Int))) 0)) 404 r_r17) zF0 (k53 : Int) (zR_mk (by omega) (by omega)) ((v53 4) + (r_r17 (k53 : Int))) (by have q0 := hz31.1; have p0 := hz31.2; have q1 := hz34.1; have p1 := hz34.2; exact zR_mk (by omega) (by omega)) (by omega)) kv_X12_heard zN398 (zE_9 zK398) rfl zk_1936 rfl hl.1 rfl (Nat.le_of_ble_eq_true rfl) (by decide) (by decide) dX12_drumsBeat_132 (fun r40 zMr40 zFr40 H locs hrr40 hp Wd => ?_)
              obtain ⟨rfl, rfl, rfl⟩ := hp
              have hri := hI3.2.2.2.2.2.2.2 (472 + 128 * (k53 : Int) + (v53 4 + r_r17 (k53 : Int)) % 128) (by omega) (by omega)
              refine z_dup2 C0 rfl rfl dX12_drumsBeat_135 ?_
              refine z_iald C0 Wd zN399 zK399 zL399 (by omega) (by omega) (by decide) dX12_drumsBeat_136 ?_
              obtain ⟨he44, hz42⟩ : ((zrow (zrow zM0 399 (zup v53 (96 + 47 * x0 + ((7 + (8 * ((zM0 399) (96 + 47 * x0 + 6)))) + (k53 : Int))) 0)) 404 r_r17) 399 (472 + 128 * (k53 : Int) + ((v53 4) + (r_r17 (k53 : Int))) % 128)) = (v53 (472 + 128 * (k53 : Int) + ((v53 4) + (r_r17 (k53 : Int))) % 128)) ∧ zR (v53 (472 + 128 * (k53 : Int) + ((v53 4) + (r_r17 (k53 : Int))) % 128)) := (fun q => ⟨q, q ▸ Wd.rm _ _⟩) ((congrFun (zrow_ne (by decide)) _).trans ((congrFun (zrow_same _ _ _) _).trans (zup_ne (by omega))))
              refine z_top (congrArg zI he44) ?_
              clear he44
              refine z_iload C0 hl 1 rfl dX12_drumsBeat_137 ?_
              refine z_if_eq C0 (tgt := 146) (zR_mk (by decide) (by decide)) dX12_drumsBeat_139 (by decide) (fun _ => ?_) (fun h => absurd h (by decide))
              refine z_iconst C0 dX12_drumsBeat_146 ?_
              refine z_iadd C0 dX12_drumsBeat_147 ?_
              refine z_iast C0 Wd zN399 zK399 zL399 (by omega) (by omega) (by decide) (by have q0 := hz42.1; have p0 := hz42.2; exact zR_mk (by omega) (by omega)) dX12_drumsBeat_148 (fun H locs Wd => ?_)
              replace Wd := zW.mem Wd (show _ = (zrow (zrow zM0 399 (zup (zup v53 (96 + 47 * x0 + ((7 + (8 * ((zM0 399) (96 + 47 * x0 + 6)))) + (k53 : Int))) 0) (472 + 128 * (k53 : Int) + ((v53 4) + (r_r17 (k53 : Int))) % 128) ((v53 (472 + 128 * (k53 : Int) + ((v53 4) + (r_r17 (k53 : Int))) % 128)) + 0))) 404 r_r17) from ((zu_zrow_ne (by decide)).trans (zrow_c 404 r_r17 (zu_zrow zM0 399 (zup v53 (96 + 47 * x0 + ((7 + (8 * ((zM0 399) (96 + 47 * x0 + 6)))) + (k53 : Int))) 0) (472 + 128 * (k53 : Int) + ((v53 4) + (r_r17 (k53 : Int))) % 128) ((v53 (472 + 128 * (k53 : Int) + ((v53 4) + (r_r17 (k53 : Int))) % 128)) + 0)))))
              refine z_iinc C0 hl 5 (t := (k53 : Int)) (u := ((k53 : Int) + 1)) rfl (by omega) [(3, .int (zI ((k53 : Int) + 1))), (5, .int (zI ((v53 4) + (r_r17 (k53 : Int))))), (4, .int (zI 0)), (0, .ref (ad 398)), (1, .int (zI x0)), (2, .int (zI ((zM0 399) (96 + 47 * x0 + 6))))] (by decide) rfl dX12_drumsBeat_149 (fun ls hl => ?_)
              refine z_goto C0 (tgt := 53) dX12_drumsBeat_152 (by decide) ?_
              exact ih53 (k53 + 1) (by omega) (zup (zup v53 (96 + 47 * x0 + ((7 + (8 * ((zM0 399) (96 + 47 * x0 + 6)))) + (k53 : Int))) 0) (472 + 128 * (k53 : Int) + ((v53 4) + (r_r17 (k53 : Int))) % 128) ((v53 (472 + 128 * (k53 : Int) + ((v53 4) + (r_r17 (k53 : Int))) % 128)) + 0)) (by show _ = zHear x0 _ _ (k53 : Int) (zfold (fun c W => zHear x0 (zM0 399 (96 + 47 * x0 + 6)) (zBF (zDr2 x0 (zM0 399)) (zhm (zDr2 x0 (zM0 399)) x0)) c W) k53 (zDr2 x0 (zM0 399))); rw [← hv, zHear, ← hn]; first | (rw [if_pos (by assumption), if_pos (by assumption)]; done) | (rw [if_neg (by omega), if_neg (by omega)]; done)) _ _ _ Wd (lv_sub hl [3, 4, 5, 0] rfl)
            · skip
              refine z_iconst C0 dX12_drumsBeat_75 ?_
              refine z_goto C0 (tgt := 80) dX12_drumsBeat_76 (by decide) ?_
              refine z_istore C0 hl [(4, .int (zI 1)), (0, .ref (ad 398)), (1, .int (zI x0)), (2, .int (zI ((zM0 399) (96 + 47 * x0 + 6)))), (3, .int (zI (k53 : Int)))] (by decide) rfl dX12_drumsBeat_80 (fun ls hl => ?_)
              refine z_aload_n C0 hl 1 rfl dX12_drumsBeat_82 ?_
              refine zg_9_0 C0 Wd zN398 zK398 zk_1612 dX12_drumsBeat_83 ?_
              refine z_iconst C0 dX12_drumsBeat_86 ?_
              refine z_iald C0 Wd zN399 zK399 zL399 (by decide) (by decide) (by decide) dX12_drumsBeat_87 ?_
              obtain ⟨he48, hz46⟩ : ((zrow (zrow zM0 399 v53) 404 r_r17) 399 4) = (v53 4) ∧ zR (v53 4) := (fun q => ⟨q, q ▸ Wd.rm _ _⟩) ((congrFun (zrow_ne (by decide)) _).trans (congrFun (zrow_same _ _ _) _))
              refine z_top (congrArg zI he48) ?_
              clear he48
              refine z_aload_n C0 hl 1 rfl dX12_drumsBeat_88 ?_
              refine zg_9_7 C0 Wd zN398 zK398 zk_1619 dX12_drumsBeat_89 ?_
              refine z_iload_n C0 hl 4 rfl dX12_drumsBeat_92 ?_
              refine z_iald C0 Wd zN404 zK404 zL404 (by omega) (by omega) (by decide) dX12_drumsBeat_93 ?_
              obtain ⟨he51, hz49⟩ : ((zrow (zrow zM0 399 v53) 404 r_r17) 404 (k53 : Int)) = (r_r17 (k53 : Int)) ∧ zR (r_r17 (k53 : Int)) := (fun q => ⟨q, q ▸ Wd.rm _ _⟩) (congrFun (zrow_same _ _ _) _)
              refine z_top (congrArg zI he51) ?_
              clear he51
              refine z_iadd C0 dX12_drumsBeat_94 ?_
              refine z_istore C0 hl [(5, .int (zI ((v53 4) + (r_r17 (k53 : Int))))), (4, .int (zI 1)), (0, .ref (ad 398)), (1, .int (zI x0)), (2, .int (zI ((zM0 399) (96 + 47 * x0 + 6)))), (3, .int (zI (k53 : Int)))] (by decide) rfl dX12_drumsBeat_95 (fun ls hl => ?_)
              refine z_aload_n C0 hl 2 rfl dX12_drumsBeat_97 ?_
              refine z_iload_n C0 hl 3 rfl dX12_drumsBeat_98 ?_
              refine z_bipush C0 dX12_drumsBeat_99 (by decide) ?_
              refine z_bipush C0 dX12_drumsBeat_101 (by decide) ?_
              refine z_iload_n C0 hl 4 rfl dX12_drumsBeat_103 ?_
              refine z_imul C0 dX12_drumsBeat_104 ?_
              refine z_iadd C0 dX12_drumsBeat_105 ?_
              refine z_iload_n C0 hl 5 rfl dX12_drumsBeat_106 ?_
              refine z_iadd C0 dX12_drumsBeat_107 ?_
              refine z_iload C0 hl 1 rfl dX12_drumsBeat_108 ?_
              refine z_if_eq C0 (tgt := 120) (zR_mk (by decide) (by decide)) dX12_drumsBeat_110 (by decide) (fun h => absurd h (by decide)) (fun _ => ?_)
              refine z_iload C0 hl 0 rfl dX12_drumsBeat_113 ?_
              refine z_iconst C0 dX12_drumsBeat_115 ?_
              refine z_iadd C0 dX12_drumsBeat_116 ?_
              refine z_goto C0 (tgt := 121) dX12_drumsBeat_117 (by decide) ?_
              refine z_invVv (As := [.int (zI x0), .int (zI ((7 + (8 * ((zM0 399) (96 + 47 * x0 + 6)))) + (k53 : Int))), .int (zI (((v53 4) + (r_r17 (k53 : Int))) + 1))]) (rest := []) C0 Wd (ct_X12_sets l g ad (zrow (zrow zM0 399 v53) 404 r_r17) zF0 x0 hx0 ((7 + (8 * ((zM0 399) (96 + 47 * x0 + 6)))) + (k53 : Int)) (by have q0 := hrr1.1; have p0 := hrr1.2; exact zR_mk (by omega) (by omega)) (((v53 4) + (r_r17 (k53 : Int))) + 1) (by have q0 := hz46.1; have p0 := hz46.2; have q1 := hz49.1; have p1 := hz49.2; exact zR_mk (by omega) (by omega)) (by omega)) kv_X12_sets zN398 (zE_9 zK398) rfl zk_1853 rfl hl.1 rfl (Nat.le_of_ble_eq_true rfl) (by decide) (by decide) dX12_drumsBeat_121 (fun zMr53 zFr53 H locs hp Wd => ?_)
              obtain ⟨rfl, rfl⟩ := hp
              replace Wd := zW.mem Wd (show _ = (zrow (zrow zM0 399 (zup v53 (96 + 47 * x0 + ((7 + (8 * ((zM0 399) (96 + 47 * x0 + 6)))) + (k53 : Int))) (((v53 4) + (r_r17 (k53 : Int))) + 1))) 404 r_r17) from ((zu_zrow_ne (by decide)).trans (zrow_c 404 r_r17 (zu_zrow zM0 399 v53 (96 + 47 * x0 + ((7 + (8 * ((zM0 399) (96 + 47 * x0 + 6)))) + (k53 : Int))) (((v53 4) + (r_r17 (k53 : Int))) + 1)))))
              refine z_aload_n C0 hl 2 rfl dX12_drumsBeat_124 ?_
              refine zg_9_0 C0 Wd zN398 zK398 zk_1612 dX12_drumsBeat_125 ?_
              refine z_aload_n C0 hl 2 rfl dX12_drumsBeat_128 ?_
              refine z_iload_n C0 hl 5 rfl dX12_drumsBeat_129 ?_
              refine z_iload C0 hl 0 rfl dX12_drumsBeat_130 ?_
              refine z_invVi (As := [.int (zI (k53 : Int)), .int (zI ((v53 4) + (r_r17 (k53 : Int))))]) (rest := [.ref (ad 399)]) C0 Wd (ct_X12_heard l g ad (zrow (zrow zM0 399 (zup v53 (96 + 47 * x0 + ((7 + (8 * ((zM0 399) (96 + 47 * x0 + 6)))) + (k53 : Int))) (((v53 4) + (r_r17 (k53 : Int))) + 1))) 404 r_r17) zF0 (k53 : Int) (zR_mk (by omega) (by omega)) ((v53 4) + (r_r17 (k53 : Int))) (by have q0 := hz46.1; have p0 := hz46.2; have q1 := hz49.1; have p1 := hz49.2; exact zR_mk (by omega) (by omega)) (by omega)) kv_X12_heard zN398 (zE_9 zK398) rfl zk_1936 rfl hl.1 rfl (Nat.le_of_ble_eq_true rfl) (by decide) (by decide) dX12_drumsBeat_132 (fun r55 zMr55 zFr55 H locs hrr55 hp Wd => ?_)
              obtain ⟨rfl, rfl, rfl⟩ := hp
              have hri := hI3.2.2.2.2.2.2.2 (472 + 128 * (k53 : Int) + (v53 4 + r_r17 (k53 : Int)) % 128) (by omega) (by omega)
              refine z_dup2 C0 rfl rfl dX12_drumsBeat_135 ?_
              refine z_iald C0 Wd zN399 zK399 zL399 (by omega) (by omega) (by decide) dX12_drumsBeat_136 ?_
              obtain ⟨he59, hz57⟩ : ((zrow (zrow zM0 399 (zup v53 (96 + 47 * x0 + ((7 + (8 * ((zM0 399) (96 + 47 * x0 + 6)))) + (k53 : Int))) (((v53 4) + (r_r17 (k53 : Int))) + 1))) 404 r_r17) 399 (472 + 128 * (k53 : Int) + ((v53 4) + (r_r17 (k53 : Int))) % 128)) = (v53 (472 + 128 * (k53 : Int) + ((v53 4) + (r_r17 (k53 : Int))) % 128)) ∧ zR (v53 (472 + 128 * (k53 : Int) + ((v53 4) + (r_r17 (k53 : Int))) % 128)) := (fun q => ⟨q, q ▸ Wd.rm _ _⟩) ((congrFun (zrow_ne (by decide)) _).trans ((congrFun (zrow_same _ _ _) _).trans (zup_ne (by omega))))
              refine z_top (congrArg zI he59) ?_
              clear he59
              refine z_iload C0 hl 1 rfl dX12_drumsBeat_137 ?_
              refine z_if_eq C0 (tgt := 146) (zR_mk (by decide) (by decide)) dX12_drumsBeat_139 (by decide) (fun h => absurd h (by decide)) (fun _ => ?_)
              refine z_iconst C0 dX12_drumsBeat_142 ?_
              refine z_goto C0 (tgt := 147) dX12_drumsBeat_143 (by decide) ?_
              refine z_iadd C0 dX12_drumsBeat_147 ?_
              refine z_iast C0 Wd zN399 zK399 zL399 (by omega) (by omega) (by decide) (by have q0 := hz57.1; have p0 := hz57.2; exact zR_mk (by omega) (by omega)) dX12_drumsBeat_148 (fun H locs Wd => ?_)
              replace Wd := zW.mem Wd (show _ = (zrow (zrow zM0 399 (zup (zup v53 (96 + 47 * x0 + ((7 + (8 * ((zM0 399) (96 + 47 * x0 + 6)))) + (k53 : Int))) (((v53 4) + (r_r17 (k53 : Int))) + 1)) (472 + 128 * (k53 : Int) + ((v53 4) + (r_r17 (k53 : Int))) % 128) ((v53 (472 + 128 * (k53 : Int) + ((v53 4) + (r_r17 (k53 : Int))) % 128)) + 1))) 404 r_r17) from ((zu_zrow_ne (by decide)).trans (zrow_c 404 r_r17 (zu_zrow zM0 399 (zup v53 (96 + 47 * x0 + ((7 + (8 * ((zM0 399) (96 + 47 * x0 + 6)))) + (k53 : Int))) (((v53 4) + (r_r17 (k53 : Int))) + 1)) (472 + 128 * (k53 : Int) + ((v53 4) + (r_r17 (k53 : Int))) % 128) ((v53 (472 + 128 * (k53 : Int) + ((v53 4) + (r_r17 (k53 : Int))) % 128)) + 1)))))
              refine z_iinc C0 hl 5 (t := (k53 : Int)) (u := ((k53 : Int) + 1)) rfl (by omega) [(3, .int (zI ((k53 : Int) + 1))), (5, .int (zI ((v53 4) + (r_r17 (k53 : Int))))), (4, .int (zI 1)), (0, .ref (ad 398)), (1, .int (zI x0)), (2, .int (zI ((zM0 399) (96 + 47 * x0 + 6))))] (by decide) rfl dX12_drumsBeat_149 (fun ls hl => ?_)
              refine z_goto C0 (tgt := 53) dX12_drumsBeat_152 (by decide) ?_
              exact ih53 (k53 + 1) (by omega) (zup (zup v53 (96 + 47 * x0 + ((7 + (8 * ((zM0 399) (96 + 47 * x0 + 6)))) + (k53 : Int))) (((v53 4) + (r_r17 (k53 : Int))) + 1)) (472 + 128 * (k53 : Int) + ((v53 4) + (r_r17 (k53 : Int))) % 128) ((v53 (472 + 128 * (k53 : Int) + ((v53 4) + (r_r17 (k53 : Int))) % 128)) + 1)) (by show _ = zHear x0 _ _ (k53 : Int) (zfold (fun c W => zHear x0 (zM0 399 (96 + 47 * x0 + 6)) (zBF (zDr2 x0 (zM0 399)) (zhm (zDr2 x0 (zM0 399)) x0)) c W) k53 (zDr2 x0 (zM0 399))); rw [← hv, zHear, ← hn]; first | (rw [if_pos (by assumption), if_pos (by assumption)]; done) | (rw [if_neg (by omega), if_neg (by omega)]; done)) _ _ _ Wd (lv_sub hl [3, 4, 5, 0] rfl)
      exact lp53 ((zM0 399 0)).toNat 0 (by omega) (zDr2 x0 (zM0 399)) rfl _ _ _ Wd (lv_sub hl [2, 3, 1, 0] rfl)
  · skip
    exact z_vret C0 Wd hret hlk ⟨zM0 404, by rw [zDr, if_pos (by assumption)]; rfl, rfl⟩ dX12_drumsBeat_31
