/-! the model: what a command does -/
theorem kv_X12_doAddTunnel : zKV yX12_doAddTunnel cX12_doAddTunnel 4 (some .int) "DrumWarrenModel" 3 := ⟨zk_1702, zk_1701, zk_28, zk_80, by decide, by decide, by decide +kernel⟩
set_option maxHeartbeats 4000000 in
set_option maxRecDepth 100000 in
theorem ct_X12_doAddTunnel (l : Launch) (g : zG) (ad : Int → Nat) (zM0 zF0 : zMem) (x0 : Int) (hx0 : zR x0) (x1 : Int) (hx1 : zR x1) (x2 : Int) (hx2 : zR x2) (h0 : 0 ≤ zM0 399 0 ∧ zM0 399 0 ≤ 8) : zMt l yX12_doAddTunnel cX12_doAddTunnel 4 (some .int) 2 0 0 g 410 ad [.ref (ad 398), .int (zI x0), .int (zI x1), .int (zI x2)] zM0 zF0 (zPi (fun r M' F' => ((0 < (zdAT x0 x1 x2 (zM0 399)).1) ∧ 0 = r ∧ (zu zM0 398 8 (zdAT x0 x1 x2 (zM0 399)).1) = M' ∧ zF0 = F') ∨ (((zdAT x0 x1 x2 (zM0 399)).1 = 0) ∧ (zdAT x0 x1 x2 (zM0 399)).2.1 = r ∧ (zrow zM0 399 (zdAT x0 x1 x2 (zM0 399)).2.2) = M' ∧ zF0 = F'))) := by
  refine zMt.of "DrumWarrenModel" rfl (by decide) (Nat.le_of_ble_eq_true rfl) (fun {p e s m args below meth c ls} C0 Wd hl hret hlk hin => ?_)
  have hl : lv_has ls 4 [(0, .ref (ad 398)), (1, .int (zI x0)), (2, .int (zI x1)), (3, .int (zI x2))] := hl
  refine z_aload_n C0 hl 0 rfl dX12_doAddTunnel_0 ?_
  refine z_iload_n C0 hl 1 rfl dX12_doAddTunnel_1 ?_
  refine z_invVi (As := [.int (zI x0)]) (rest := []) C0 Wd (ct_X12_isChamber l g ad zM0 zF0 x0 hx0 (by omega)) kv_X12_isChamber zN398 (zE_9 zK398) rfl zk_1703 rfl hl.1 rfl (Nat.le_of_ble_eq_true rfl) (by decide) (by decide) dX12_doAddTunnel_2 (fun r1 zMr1 zFr1 H locs hrr1 hp Wd => ?_)
  obtain ⟨rfl, rfl, rfl⟩ := hp
  refine z_if_eq_b C0 (tgt := 16) dX12_doAddTunnel_5 (by decide) (fun c3 => ?_) (fun c3 => ?_)
  · skip
    refine z_aload_n C0 hl 0 rfl dX12_doAddTunnel_16 ?_
    refine z_iconst C0 dX12_doAddTunnel_17 ?_
    refine z_invVi (As := [.int (zI 1)]) (rest := []) C0 Wd (ct_X12_fails l g ad zM0 zF0 1 (zR_mk (by decide) (by decide))) kv_X12_fails zN398 (zE_9 zK398) rfl zk_1687 rfl hl.1 rfl (Nat.le_of_ble_eq_true rfl) (by decide) (by decide) dX12_doAddTunnel_18 (fun r4 zMr4 zFr4 H locs hrr4 hp Wd => ?_)
    obtain ⟨rfl, rfl, rfl⟩ := hp
    exact z_iret C0 Wd hret hlk (zR_mk (by decide) (by decide)) (by have e : (zdAT x0 x1 x2 (zM0 399)) = ((1, 0, zM0 399) : zO) := (by unfold zdAT; first | (rw [if_pos (by first | assumption | omega)]; done) | (rw [if_neg (by first | assumption | omega), if_pos (by first | assumption | omega)]; done) | (rw [if_neg (by first | assumption | omega)]; first | done | rfl | (rw [zb_t (by assumption)]; done) | (rw [zb_f (by assumption)]; done)) | (rw [if_neg (by first | assumption | omega), if_neg (by first | assumption | omega), if_pos (by first | assumption | omega)]; done) | (rw [if_neg (by first | assumption | omega), if_neg (by first | assumption | omega)]; first | done | rfl | (rw [zb_t (by assumption)]; done) | (rw [zb_f (by assumption)]; done)) | (rw [if_neg (by first | assumption | omega), if_neg (by first | assumption | omega), if_neg (by first | assumption | omega)]; first | done | rfl | (rw [zb_t (by assumption)]; done) | (rw [zb_f (by assumption)]; done))); rw [e]; exact Or.inl ⟨(by show (0 : Int) < 1; decide), rfl, rfl, rfl⟩) dX12_doAddTunnel_21
  · skip
    refine z_aload_n C0 hl 0 rfl dX12_doAddTunnel_8 ?_
    refine z_iload_n C0 hl 2 rfl dX12_doAddTunnel_9 ?_
    refine z_invVi (As := [.int (zI x1)]) (rest := []) C0 Wd (ct_X12_isChamber l g ad zM0 zF0 x1 hx1 (by omega)) kv_X12_isChamber zN398 (zE_9 zK398) rfl zk_1703 rfl hl.1 rfl (Nat.le_of_ble_eq_true rfl) (by decide) (by decide) dX12_doAddTunnel_10 (fun r6 zMr6 zFr6 H locs hrr6 hp Wd => ?_)
    obtain ⟨rfl, rfl, rfl⟩ := hp
    refine z_if_ne_b C0 (tgt := 22) dX12_doAddTunnel_13 (by decide) (fun c8 => ?_) (fun c8 => ?_)
    · skip
      refine z_iload_n C0 hl 1 rfl dX12_doAddTunnel_22 ?_
      refine z_iload_n C0 hl 2 rfl dX12_doAddTunnel_23 ?_
      refine z_icmp_eq C0 (tgt := 37) hx0 hx1 dX12_doAddTunnel_24 (by decide) (fun c9 => ?_) (fun c9 => ?_)
      · skip
        refine z_aload_n C0 hl 0 rfl dX12_doAddTunnel_37 ?_
        refine z_iconst C0 dX12_doAddTunnel_38 ?_
        refine z_invVi (As := [.int (zI 2)]) (rest := []) C0 Wd (ct_X12_fails l g ad zM0 zF0 2 (zR_mk (by decide) (by decide))) kv_X12_fails zN398 (zE_9 zK398) rfl zk_1687 rfl hl.1 rfl (Nat.le_of_ble_eq_true rfl) (by decide) (by decide) dX12_doAddTunnel_39 (fun r10 zMr10 zFr10 H locs hrr10 hp Wd => ?_)
        obtain ⟨rfl, rfl, rfl⟩ := hp
        exact z_iret C0 Wd hret hlk (zR_mk (by decide) (by decide)) (by have e : (zdAT x0 x1 x2 (zM0 399)) = ((2, 0, zM0 399) : zO) := (by unfold zdAT; first | (rw [if_pos (by first | assumption | omega)]; done) | (rw [if_neg (by first | assumption | omega), if_pos (by first | assumption | omega)]; done) | (rw [if_neg (by first | assumption | omega)]; first | done | rfl | (rw [zb_t (by assumption)]; done) | (rw [zb_f (by assumption)]; done)) | (rw [if_neg (by first | assumption | omega), if_neg (by first | assumption | omega), if_pos (by first | assumption | omega)]; done) | (rw [if_neg (by first | assumption | omega), if_neg (by first | assumption | omega)]; first | done | rfl | (rw [zb_t (by assumption)]; done) | (rw [zb_f (by assumption)]; done)) | (rw [if_neg (by first | assumption | omega), if_neg (by first | assumption | omega), if_neg (by first | assumption | omega)]; first | done | rfl | (rw [zb_t (by assumption)]; done) | (rw [zb_f (by assumption)]; done))); rw [e]; exact Or.inl ⟨(by show (0 : Int) < 2; decide), rfl, rfl, rfl⟩) dX12_doAddTunnel_42
      · skip
        refine z_iload_n C0 hl 3 rfl dX12_doAddTunnel_27 ?_
        refine z_iconst C0 dX12_doAddTunnel_28 ?_
        refine z_bipush C0 dX12_doAddTunnel_29 (by decide) ?_
        refine z_invSi (As := [.int (zI x2), .int (zI 1), .int (zI 9)]) (rest := []) C0 Wd (ct_X12_in l g ad zM0 zF0 x2 hx2 1 (zR_mk (by decide) (by decide)) 9 (zR_mk (by decide) (by decide))) kv_X12_in zk_1707 rfl hl.1 rfl (Nat.le_of_ble_eq_true rfl) (by decide) (by decide) dX12_doAddTunnel_31 (fun r12 zMr12 zFr12 H locs hrr12 hp Wd => ?_)
        obtain ⟨rfl, rfl, rfl⟩ := hp
        refine z_if_ne_b C0 (tgt := 43) dX12_doAddTunnel_34 (by decide) (fun c14 => ?_) (fun c14 => ?_)
        · skip
          refine z_aload_n C0 hl 0 rfl dX12_doAddTunnel_43 ?_
          refine zg_9_0 C0 Wd zN398 zK398 zk_1612 dX12_doAddTunnel_44 ?_
          refine z_iload_n C0 hl 1 rfl dX12_doAddTunnel_47 ?_
          refine z_iload_n C0 hl 2 rfl dX12_doAddTunnel_48 ?_
          refine z_invSi (As := [.int (zI x0), .int (zI x1)]) (rest := [.ref (ad 399)]) C0 Wd (ct_X12_tunnel l g ad zM0 zF0 x0 hx0 x1 hx1 (by omega)) kv_X12_tunnel zk_1710 rfl hl.1 rfl (Nat.le_of_ble_eq_true rfl) (by decide) (by decide) dX12_doAddTunnel_49 (fun r15 zMr15 zFr15 H locs hrr15 hp Wd => ?_)
          obtain ⟨rfl, rfl, rfl⟩ := hp
          refine z_iald C0 Wd zN399 zK399 zL399 (by omega) (by omega) (by decide) dX12_doAddTunnel_52 ?_
          have hz17 : zR (zM0 399 (8 + 8 * x0 + x1)) := Wd.rm _ _
          refine z_if_le C0 (tgt := 62) hz17 dX12_doAddTunnel_53 (by decide) (fun c18 => ?_) (fun c18 => ?_)
          · skip
            refine z_aload_n C0 hl 0 rfl dX12_doAddTunnel_62 ?_
            refine zg_9_0 C0 Wd zN398 zK398 zk_1612 dX12_doAddTunnel_63 ?_
            refine z_iload_n C0 hl 1 rfl dX12_doAddTunnel_66 ?_
            refine z_iload_n C0 hl 2 rfl dX12_doAddTunnel_67 ?_
            refine z_invSi (As := [.int (zI x0), .int (zI x1)]) (rest := [.ref (ad 399)]) C0 Wd (ct_X12_tunnel l g ad zM0 zF0 x0 hx0 x1 hx1 (by omega)) kv_X12_tunnel zk_1710 rfl hl.1 rfl (Nat.le_of_ble_eq_true rfl) (by decide) (by decide) dX12_doAddTunnel_68 (fun r19 zMr19 zFr19 H locs hrr19 hp Wd => ?_)
            obtain ⟨rfl, rfl, rfl⟩ := hp
            refine z_iload_n C0 hl 3 rfl dX12_doAddTunnel_71 ?_
            refine z_iast C0 Wd zN399 zK399 zL399 (by omega) (by omega) (by decide) hx2 dX12_doAddTunnel_72 (fun H locs Wd => ?_)
            replace Wd := zW.mem Wd (show _ = (zrow zM0 399 (zup (zM0 399) (8 + 8 * x0 + x1) x2)) from ((zu_c 399 (8 + 8 * x0 + x1) x2 (zrow_eta zM0 399).symm).trans (zu_zrow zM0 399 (zM0 399) (8 + 8 * x0 + x1) x2)))
            refine z_aload_n C0 hl 0 rfl dX12_doAddTunnel_73 ?_
            refine zg_9_0 C0 Wd zN398 zK398 zk_1612 dX12_doAddTunnel_74 ?_
            refine z_iload_n C0 hl 2 rfl dX12_doAddTunnel_77 ?_
            refine z_iload_n C0 hl 1 rfl dX12_doAddTunnel_78 ?_
            refine z_invSi (As := [.int (zI x1), .int (zI x0)]) (rest := [.ref (ad 399)]) C0 Wd (ct_X12_tunnel l g ad (zrow zM0 399 (zup (zM0 399) (8 + 8 * x0 + x1) x2)) zF0 x1 hx1 x0 hx0 (by omega)) kv_X12_tunnel zk_1710 rfl hl.1 rfl (Nat.le_of_ble_eq_true rfl) (by decide) (by decide) dX12_doAddTunnel_79 (fun r21 zMr21 zFr21 H locs hrr21 hp Wd => ?_)
            obtain ⟨rfl, rfl, rfl⟩ := hp
            refine z_iload_n C0 hl 3 rfl dX12_doAddTunnel_82 ?_
            refine z_iast C0 Wd zN399 zK399 zL399 (by omega) (by omega) (by decide) hx2 dX12_doAddTunnel_83 (fun H locs Wd => ?_)
            replace Wd := zW.mem Wd (show _ = (zrow zM0 399 (zup (zup (zM0 399) (8 + 8 * x0 + x1) x2) (8 + 8 * x1 + x0) x2)) from (zu_zrow zM0 399 (zup (zM0 399) (8 + 8 * x0 + x1) x2) (8 + 8 * x1 + x0) x2))
            refine z_aload_n C0 hl 0 rfl dX12_doAddTunnel_84 ?_
            refine z_invVi (As := []) (rest := []) C0 Wd (ct_X12_tunnels l g ad (zrow zM0 399 (zup (zup (zM0 399) (8 + 8 * x0 + x1) x2) (8 + 8 * x1 + x0) x2)) zF0) kv_X12_tunnels zN398 (zE_9 zK398) rfl zk_1713 rfl hl.1 rfl (Nat.le_of_ble_eq_true rfl) (by decide) (by decide) dX12_doAddTunnel_85 (fun r23 zMr23 zFr23 H locs hrr23 hp Wd => ?_)
            obtain ⟨rfl, rfl, rfl⟩ := hp
            exact z_iret C0 Wd hret hlk hrr23 (by have e : (zdAT x0 x1 x2 (zM0 399)) = ((0, zfold (fun a c => zfold (fun b c => c + zb (0 < (zrow zM0 399 (zup (zup (zM0 399) (8 + 8 * x0 + x1) x2) (8 + 8 * x1 + x0) x2)) 399 (8 + 8 * a + b))) a.toNat c) 8 0, zup (zup (zM0 399) (8 + 8 * x0 + x1) x2) (8 + 8 * x1 + x0) x2) : zO) := (by unfold zdAT; first | (rw [if_pos (by first | assumption | omega)]; done) | (rw [if_neg (by first | assumption | omega), if_pos (by first | assumption | omega)]; done) | (rw [if_neg (by first | assumption | omega)]; first | done | rfl | (rw [zb_t (by assumption)]; done) | (rw [zb_f (by assumption)]; done)) | (rw [if_neg (by first | assumption | omega), if_neg (by first | assumption | omega), if_pos (by first | assumption | omega)]; done) | (rw [if_neg (by first | assumption | omega), if_neg (by first | assumption | omega)]; first | done | rfl | (rw [zb_t (by assumption)]; done) | (rw [zb_f (by assumption)]; done)) | (rw [if_neg (by first | assumption | omega), if_neg (by first | assumption | omega), if_neg (by first | assumption | omega)]; first | done | rfl | (rw [zb_t (by assumption)]; done) | (rw [zb_f (by assumption)]; done))); rw [e]; exact Or.inr ⟨rfl, rfl, rfl, rfl⟩) dX12_doAddTunnel_88
          · skip
            refine z_aload_n C0 hl 0 rfl dX12_doAddTunnel_56 ?_
            refine z_iconst C0 dX12_doAddTunnel_57 ?_
            refine z_invVi (As := [.int (zI 3)]) (rest := []) C0 Wd (ct_X12_fails l g ad zM0 zF0 3 (zR_mk (by decide) (by decide))) kv_X12_fails zN398 (zE_9 zK398) rfl zk_1687 rfl hl.1 rfl (Nat.le_of_ble_eq_true rfl) (by decide) (by decide) dX12_doAddTunnel_58 (fun r25 zMr25 zFr25 H locs hrr25 hp Wd => ?_)
            obtain ⟨rfl, rfl, rfl⟩ := hp
            exact z_iret C0 Wd hret hlk (zR_mk (by decide) (by decide)) (by have e : (zdAT x0 x1 x2 (zM0 399)) = ((3, 0, zM0 399) : zO) := (by unfold zdAT; first | (rw [if_pos (by first | assumption | omega)]; done) | (rw [if_neg (by first | assumption | omega), if_pos (by first | assumption | omega)]; done) | (rw [if_neg (by first | assumption | omega)]; first | done | rfl | (rw [zb_t (by assumption)]; done) | (rw [zb_f (by assumption)]; done)) | (rw [if_neg (by first | assumption | omega), if_neg (by first | assumption | omega), if_pos (by first | assumption | omega)]; done) | (rw [if_neg (by first | assumption | omega), if_neg (by first | assumption | omega)]; first | done | rfl | (rw [zb_t (by assumption)]; done) | (rw [zb_f (by assumption)]; done)) | (rw [if_neg (by first | assumption | omega), if_neg (by first | assumption | omega), if_neg (by first | assumption | omega)]; first | done | rfl | (rw [zb_t (by assumption)]; done) | (rw [zb_f (by assumption)]; done))); rw [e]; exact Or.inl ⟨(by show (0 : Int) < 3; decide), rfl, rfl, rfl⟩) dX12_doAddTunnel_61
        · skip
          refine z_aload_n C0 hl 0 rfl dX12_doAddTunnel_37 ?_
          refine z_iconst C0 dX12_doAddTunnel_38 ?_
          refine z_invVi (As := [.int (zI 2)]) (rest := []) C0 Wd (ct_X12_fails l g ad zM0 zF0 2 (zR_mk (by decide) (by decide))) kv_X12_fails zN398 (zE_9 zK398) rfl zk_1687 rfl hl.1 rfl (Nat.le_of_ble_eq_true rfl) (by decide) (by decide) dX12_doAddTunnel_39 (fun r27 zMr27 zFr27 H locs hrr27 hp Wd => ?_)
          obtain ⟨rfl, rfl, rfl⟩ := hp
          exact z_iret C0 Wd hret hlk (zR_mk (by decide) (by decide)) (by have e : (zdAT x0 x1 x2 (zM0 399)) = ((2, 0, zM0 399) : zO) := (by unfold zdAT; first | (rw [if_pos (by first | assumption | omega)]; done) | (rw [if_neg (by first | assumption | omega), if_pos (by first | assumption | omega)]; done) | (rw [if_neg (by first | assumption | omega)]; first | done | rfl | (rw [zb_t (by assumption)]; done) | (rw [zb_f (by assumption)]; done)) | (rw [if_neg (by first | assumption | omega), if_neg (by first | assumption | omega), if_pos (by first | assumption | omega)]; done) | (rw [if_neg (by first | assumption | omega), if_neg (by first | assumption | omega)]; first | done | rfl | (rw [zb_t (by assumption)]; done) | (rw [zb_f (by assumption)]; done)) | (rw [if_neg (by first | assumption | omega), if_neg (by first | assumption | omega), if_neg (by first | assumption | omega)]; first | done | rfl | (rw [zb_t (by assumption)]; done) | (rw [zb_f (by assumption)]; done))); rw [e]; exact Or.inl ⟨(by show (0 : Int) < 2; decide), rfl, rfl, rfl⟩) dX12_doAddTunnel_42
    · skip
      refine z_aload_n C0 hl 0 rfl dX12_doAddTunnel_16 ?_
      refine z_iconst C0 dX12_doAddTunnel_17 ?_
      refine z_invVi (As := [.int (zI 1)]) (rest := []) C0 Wd (ct_X12_fails l g ad zM0 zF0 1 (zR_mk (by decide) (by decide))) kv_X12_fails zN398 (zE_9 zK398) rfl zk_1687 rfl hl.1 rfl (Nat.le_of_ble_eq_true rfl) (by decide) (by decide) dX12_doAddTunnel_18 (fun r29 zMr29 zFr29 H locs hrr29 hp Wd => ?_)
      obtain ⟨rfl, rfl, rfl⟩ := hp
      exact z_iret C0 Wd hret hlk (zR_mk (by decide) (by decide)) (by have e : (zdAT x0 x1 x2 (zM0 399)) = ((1, 0, zM0 399) : zO) := (by unfold zdAT; first | (rw [if_pos (by first | assumption | omega)]; done) | (rw [if_neg (by first | assumption | omega), if_pos (by first | assumption | omega)]; done) | (rw [if_neg (by first | assumption | omega)]; first | done | rfl | (rw [zb_t (by assumption)]; done) | (rw [zb_f (by assumption)]; done)) | (rw [if_neg (by first | assumption | omega), if_neg (by first | assumption | omega), if_pos (by first | assumption | omega)]; done) | (rw [if_neg (by first | assumption | omega), if_neg (by first | assumption | omega)]; first | done | rfl | (rw [zb_t (by assumption)]; done) | (rw [zb_f (by assumption)]; done)) | (rw [if_neg (by first | assumption | omega), if_neg (by first | assumption | omega), if_neg (by first | assumption | omega)]; first | done | rfl | (rw [zb_t (by assumption)]; done) | (rw [zb_f (by assumption)]; done))); rw [e]; exact Or.inl ⟨(by show (0 : Int) < 1; decide), rfl, rfl, rfl⟩) dX12_doAddTunnel_21
theorem kv_X12_doMove : zKV yX12_doMove cX12_doMove 4 (some .int) "DrumWarrenModel" 2 := ⟨zk_1792, zk_1791, zk_36, zk_80, by decide, by decide, by decide +kernel⟩
set_option maxHeartbeats 4000000 in
set_option maxRecDepth 100000 in
theorem ct_X12_doMove (l : Launch) (g : zG) (ad : Int → Nat) (zM0 zF0 : zMem) (x0 : Int) (hx0 : zR x0) (x1 : Int) (hx1 : zR x1) (h0 : 0 ≤ zM0 399 0 ∧ zM0 399 0 ≤ 8) (h1 : 0 ≤ zM0 399 1 ∧ zM0 399 1 ≤ 6) (h2 : 0 ≤ zM0 399 2 ∧ zM0 399 2 ≤ 8) : zMt l yX12_doMove cX12_doMove 4 (some .int) 2 0 0 g 410 ad [.ref (ad 398), .int (zI x0), .int (zI x1)] zM0 zF0 (zPi (fun r M' F' => ((0 < (zdMv x0 x1 (zM0 399)).1) ∧ 0 = r ∧ (zu zM0 398 8 (zdMv x0 x1 (zM0 399)).1) = M' ∧ zF0 = F') ∨ (((zdMv x0 x1 (zM0 399)).1 = 0) ∧ (zdMv x0 x1 (zM0 399)).2.1 = r ∧ (zrow zM0 399 (zdMv x0 x1 (zM0 399)).2.2) = M' ∧ zF0 = F'))) := by
  refine zMt.of "DrumWarrenModel" rfl (by decide) (Nat.le_of_ble_eq_true rfl) (fun {p e s m args below meth c ls} C0 Wd hl hret hlk hin => ?_)
  have hl : lv_has ls 4 [(0, .ref (ad 398)), (1, .int (zI x0)), (2, .int (zI x1))] := hl
  refine z_aload_n C0 hl 0 rfl dX12_doMove_0 ?_
  refine z_iload_n C0 hl 1 rfl dX12_doMove_1 ?_
  refine z_invVi (As := [.int (zI x0)]) (rest := []) C0 Wd (ct_X12_isHare l g ad zM0 zF0 x0 hx0 (by omega)) kv_X12_isHare zN398 (zE_9 zK398) rfl zk_1793 rfl hl.1 rfl (Nat.le_of_ble_eq_true rfl) (by decide) (by decide) dX12_doMove_2 (fun r1 zMr1 zFr1 H locs hrr1 hp Wd => ?_)
  obtain ⟨rfl, rfl, rfl⟩ := hp
  refine z_if_eq_b C0 (tgt := 16) dX12_doMove_5 (by decide) (fun c3 => ?_) (fun c3 => ?_)
  · skip
    refine z_aload_n C0 hl 0 rfl dX12_doMove_16 ?_
    refine z_iconst C0 dX12_doMove_17 ?_
    refine z_invVi (As := [.int (zI 1)]) (rest := []) C0 Wd (ct_X12_fails l g ad zM0 zF0 1 (zR_mk (by decide) (by decide))) kv_X12_fails zN398 (zE_9 zK398) rfl zk_1687 rfl hl.1 rfl (Nat.le_of_ble_eq_true rfl) (by decide) (by decide) dX12_doMove_18 (fun r4 zMr4 zFr4 H locs hrr4 hp Wd => ?_)
    obtain ⟨rfl, rfl, rfl⟩ := hp
    exact z_iret C0 Wd hret hlk (zR_mk (by decide) (by decide)) (by have e : (zdMv x0 x1 (zM0 399)) = ((1, 0, zM0 399) : zO) := (by unfold zdMv; first | (rw [if_pos (by first | assumption | omega)]; done) | (rw [if_neg (by first | assumption | omega), if_pos (by first | assumption | omega)]; done) | (rw [if_neg (by first | assumption | omega)]; first | done | rfl | (rw [zb_t (by assumption)]; done) | (rw [zb_f (by assumption)]; done)) | (rw [if_neg (by first | assumption | omega), if_neg (by first | assumption | omega), if_pos (by first | assumption | omega)]; done) | (rw [if_neg (by first | assumption | omega), if_neg (by first | assumption | omega)]; first | done | rfl | (rw [zb_t (by assumption)]; done) | (rw [zb_f (by assumption)]; done)) | (rw [if_neg (by first | assumption | omega), if_neg (by first | assumption | omega), if_neg (by first | assumption | omega)]; first | done | rfl | (rw [zb_t (by assumption)]; done) | (rw [zb_f (by assumption)]; done))); rw [e]; exact Or.inl ⟨(by show (0 : Int) < 1; decide), rfl, rfl, rfl⟩) dX12_doMove_21
  · skip
    refine z_aload_n C0 hl 0 rfl dX12_doMove_8 ?_
    refine z_iload_n C0 hl 2 rfl dX12_doMove_9 ?_
    refine z_invVi (As := [.int (zI x1)]) (rest := []) C0 Wd (ct_X12_isChamber l g ad zM0 zF0 x1 hx1 (by omega)) kv_X12_isChamber zN398 (zE_9 zK398) rfl zk_1703 rfl hl.1 rfl (Nat.le_of_ble_eq_true rfl) (by decide) (by decide) dX12_doMove_10 (fun r6 zMr6 zFr6 H locs hrr6 hp Wd => ?_)
    obtain ⟨rfl, rfl, rfl⟩ := hp
    refine z_if_ne_b C0 (tgt := 22) dX12_doMove_13 (by decide) (fun c8 => ?_) (fun c8 => ?_)
    · skip
      refine z_aload_n C0 hl 0 rfl dX12_doMove_22 ?_
      refine z_iload_n C0 hl 1 rfl dX12_doMove_23 ?_
      refine z_invVi (As := [.int (zI x0)]) (rest := []) C0 Wd (ct_X12_drums l g ad zM0 zF0 x0 hx0 (by omega)) kv_X12_drums zN398 (zE_9 zK398) rfl zk_1797 rfl hl.1 rfl (Nat.le_of_ble_eq_true rfl) (by decide) (by decide) dX12_doMove_24 (fun r9 zMr9 zFr9 H locs hrr9 hp Wd => ?_)
      obtain ⟨rfl, rfl, rfl⟩ := hp
      refine z_if_eq_b C0 (tgt := 36) dX12_doMove_27 (by decide) (fun c11 => ?_) (fun c11 => ?_)
      · skip
        refine z_aload_n C0 hl 0 rfl dX12_doMove_36 ?_
        refine z_iload_n C0 hl 1 rfl dX12_doMove_37 ?_
        refine z_iconst C0 dX12_doMove_38 ?_
        refine z_invVi (As := [.int (zI x0), .int (zI 0)]) (rest := []) C0 Wd (ct_X12_hare l g ad zM0 zF0 x0 hx0 0 (zR_mk (by decide) (by decide)) (by omega)) kv_X12_hare zN398 (zE_9 zK398) rfl zk_1805 rfl hl.1 rfl (Nat.le_of_ble_eq_true rfl) (by decide) (by decide) dX12_doMove_39 (fun r12 zMr12 zFr12 H locs hrr12 hp Wd => ?_)
        obtain ⟨rfl, rfl, rfl⟩ := hp
        refine z_istore_n C0 hl [(3, .int (zI (zM0 399 (72 + 4 * x0 + 0)))), (0, .ref (ad 398)), (1, .int (zI x0)), (2, .int (zI x1))] (by decide) rfl dX12_doMove_42 (fun ls hl => ?_)
        refine z_aload_n C0 hl 1 rfl dX12_doMove_43 ?_
        refine zg_9_0 C0 Wd zN398 zK398 zk_1612 dX12_doMove_44 ?_
        refine z_bipush C0 dX12_doMove_47 (by decide) ?_
        refine z_iconst C0 dX12_doMove_49 ?_
        refine z_iload_n C0 hl 2 rfl dX12_doMove_50 ?_
        refine z_imul C0 dX12_doMove_51 ?_
        refine z_iadd C0 dX12_doMove_52 ?_
        refine z_iload_n C0 hl 3 rfl dX12_doMove_53 ?_
        refine z_iast C0 Wd zN399 zK399 zL399 (by omega) (by omega) (by decide) hx1 dX12_doMove_54 (fun H locs Wd => ?_)
        replace Wd := zW.mem Wd (show _ = (zrow zM0 399 (zup (zM0 399) (72 + (4 * x0)) x1)) from ((zu_c 399 (72 + (4 * x0)) x1 (zrow_eta zM0 399).symm).trans (zu_zrow zM0 399 (zM0 399) (72 + (4 * x0)) x1)))
        refine z_iload_n C0 hl 0 rfl dX12_doMove_55 ?_
        exact z_iret C0 Wd hret hlk hrr12 (by have e : (zdMv x0 x1 (zM0 399)) = ((0, (zM0 399 (72 + 4 * x0 + 0)), zup (zM0 399) (72 + (4 * x0)) x1) : zO) := (by unfold zdMv; first | (rw [if_pos (by first | assumption | omega)]; done) | (rw [if_neg (by first | assumption | omega), if_pos (by first | assumption | omega)]; done) | (rw [if_neg (by first | assumption | omega)]; first | done | rfl | (rw [zb_t (by assumption)]; done) | (rw [zb_f (by assumption)]; done)) | (rw [if_neg (by first | assumption | omega), if_neg (by first | assumption | omega), if_pos (by first | assumption | omega)]; done) | (rw [if_neg (by first | assumption | omega), if_neg (by first | assumption | omega)]; first | done | rfl | (rw [zb_t (by assumption)]; done) | (rw [zb_f (by assumption)]; done)) | (rw [if_neg (by first | assumption | omega), if_neg (by first | assumption | omega), if_neg (by first | assumption | omega)]; first | done | rfl | (rw [zb_t (by assumption)]; done) | (rw [zb_f (by assumption)]; done))); rw [e]; exact Or.inr ⟨rfl, rfl, rfl, rfl⟩) dX12_doMove_56
      · skip
        refine z_aload_n C0 hl 0 rfl dX12_doMove_30 ?_
        refine z_iconst C0 dX12_doMove_31 ?_
        refine z_invVi (As := [.int (zI 2)]) (rest := []) C0 Wd (ct_X12_fails l g ad zM0 zF0 2 (zR_mk (by decide) (by decide))) kv_X12_fails zN398 (zE_9 zK398) rfl zk_1687 rfl hl.1 rfl (Nat.le_of_ble_eq_true rfl) (by decide) (by decide) dX12_doMove_32 (fun r14 zMr14 zFr14 H locs hrr14 hp Wd => ?_)
        obtain ⟨rfl, rfl, rfl⟩ := hp
        exact z_iret C0 Wd hret hlk (zR_mk (by decide) (by decide)) (by have e : (zdMv x0 x1 (zM0 399)) = ((2, 0, zM0 399) : zO) := (by unfold zdMv; first | (rw [if_pos (by first | assumption | omega)]; done) | (rw [if_neg (by first | assumption | omega), if_pos (by first | assumption | omega)]; done) | (rw [if_neg (by first | assumption | omega)]; first | done | rfl | (rw [zb_t (by assumption)]; done) | (rw [zb_f (by assumption)]; done)) | (rw [if_neg (by first | assumption | omega), if_neg (by first | assumption | omega), if_pos (by first | assumption | omega)]; done) | (rw [if_neg (by first | assumption | omega), if_neg (by first | assumption | omega)]; first | done | rfl | (rw [zb_t (by assumption)]; done) | (rw [zb_f (by assumption)]; done)) | (rw [if_neg (by first | assumption | omega), if_neg (by first | assumption | omega), if_neg (by first | assumption | omega)]; first | done | rfl | (rw [zb_t (by assumption)]; done) | (rw [zb_f (by assumption)]; done))); rw [e]; exact Or.inl ⟨(by show (0 : Int) < 2; decide), rfl, rfl, rfl⟩) dX12_doMove_35
    · skip
      refine z_aload_n C0 hl 0 rfl dX12_doMove_16 ?_
      refine z_iconst C0 dX12_doMove_17 ?_
      refine z_invVi (As := [.int (zI 1)]) (rest := []) C0 Wd (ct_X12_fails l g ad zM0 zF0 1 (zR_mk (by decide) (by decide))) kv_X12_fails zN398 (zE_9 zK398) rfl zk_1687 rfl hl.1 rfl (Nat.le_of_ble_eq_true rfl) (by decide) (by decide) dX12_doMove_18 (fun r16 zMr16 zFr16 H locs hrr16 hp Wd => ?_)
      obtain ⟨rfl, rfl, rfl⟩ := hp
      exact z_iret C0 Wd hret hlk (zR_mk (by decide) (by decide)) (by have e : (zdMv x0 x1 (zM0 399)) = ((1, 0, zM0 399) : zO) := (by unfold zdMv; first | (rw [if_pos (by first | assumption | omega)]; done) | (rw [if_neg (by first | assumption | omega), if_pos (by first | assumption | omega)]; done) | (rw [if_neg (by first | assumption | omega)]; first | done | rfl | (rw [zb_t (by assumption)]; done) | (rw [zb_f (by assumption)]; done)) | (rw [if_neg (by first | assumption | omega), if_neg (by first | assumption | omega), if_pos (by first | assumption | omega)]; done) | (rw [if_neg (by first | assumption | omega), if_neg (by first | assumption | omega)]; first | done | rfl | (rw [zb_t (by assumption)]; done) | (rw [zb_f (by assumption)]; done)) | (rw [if_neg (by first | assumption | omega), if_neg (by first | assumption | omega), if_neg (by first | assumption | omega)]; first | done | rfl | (rw [zb_t (by assumption)]; done) | (rw [zb_f (by assumption)]; done))); rw [e]; exact Or.inl ⟨(by show (0 : Int) < 1; decide), rfl, rfl, rfl⟩) dX12_doMove_21
theorem kv_X12_doSay : zKV yX12_doSay cX12_doSay 6 (some .int) "DrumWarrenModel" 3 := ⟨zk_1852, zk_1851, zk_42, zk_80, by decide, by decide, by decide +kernel⟩
set_option maxHeartbeats 4000000 in
set_option maxRecDepth 100000 in
theorem ct_X12_doSay (l : Launch) (g : zG) (ad : Int → Nat) (zM0 zF0 : zMem) (x0 : Int) (hx0 : zR x0) (x1 : Int) (hx1 : zR x1) (x2 : Int) (hx2 : zR x2) (h1 : 0 ≤ zM0 399 1 ∧ zM0 399 1 ≤ 6) (h2 : 0 ≤ zM0 399 2 ∧ zM0 399 2 ≤ 8) (h3 : 0 ≤ zM0 399 3 ∧ zM0 399 3 ≤ 100000000) : zMt l yX12_doSay cX12_doSay 6 (some .int) 2 0 0 g 410 ad [.ref (ad 398), .int (zI x0), .int (zI x1), .int (zI x2)] zM0 zF0 (zPi (fun r M' F' => ((0 < (zdSay x0 x1 x2 (zM0 399)).1) ∧ 0 = r ∧ (zu zM0 398 8 (zdSay x0 x1 x2 (zM0 399)).1) = M' ∧ zF0 = F') ∨ (((zdSay x0 x1 x2 (zM0 399)).1 = 0) ∧ (zdSay x0 x1 x2 (zM0 399)).2.1 = r ∧ (zrow zM0 399 (zdSay x0 x1 x2 (zM0 399)).2.2) = M' ∧ zF0 = F'))) := by
  refine zMt.of "DrumWarrenModel" rfl (by decide) (Nat.le_of_ble_eq_true rfl) (fun {p e s m args below meth c ls} C0 Wd hl hret hlk hin => ?_)
  have hl : lv_has ls 6 [(0, .ref (ad 398)), (1, .int (zI x0)), (2, .int (zI x1)), (3, .int (zI x2))] := hl
  refine z_aload_n C0 hl 0 rfl dX12_doSay_0 ?_
  refine zg_9_0 C0 Wd zN398 zK398 zk_1612 dX12_doSay_1 ?_
  refine z_iconst C0 dX12_doSay_4 ?_
  refine z_iald C0 Wd zN399 zK399 zL399 (by decide) (by decide) (by decide) dX12_doSay_5 ?_
  have hz1 : zR (zM0 399 2) := Wd.rm _ _
  refine z_istore C0 hl [(4, .int (zI (zM0 399 2))), (0, .ref (ad 398)), (1, .int (zI x0)), (2, .int (zI x1)), (3, .int (zI x2))] (by decide) rfl dX12_doSay_6 (fun ls hl => ?_)
  refine z_aload_n C0 hl 1 rfl dX12_doSay_8 ?_
  refine z_iload_n C0 hl 2 rfl dX12_doSay_9 ?_
  refine z_invVi (As := [.int (zI x0)]) (rest := []) C0 Wd (ct_X12_isHare l g ad zM0 zF0 x0 hx0 (by omega)) kv_X12_isHare zN398 (zE_9 zK398) rfl zk_1793 rfl hl.1 rfl (Nat.le_of_ble_eq_true rfl) (by decide) (by decide) dX12_doSay_10 (fun r2 zMr2 zFr2 H locs hrr2 hp Wd => ?_)
  obtain ⟨rfl, rfl, rfl⟩ := hp
  refine z_if_eq_b C0 (tgt := 24) dX12_doSay_13 (by decide) (fun c4 => ?_) (fun c4 => ?_)
  · skip
    refine z_aload_n C0 hl 1 rfl dX12_doSay_24 ?_
    refine z_iconst C0 dX12_doSay_25 ?_
    refine z_invVi (As := [.int (zI 1)]) (rest := []) C0 Wd (ct_X12_fails l g ad zM0 zF0 1 (zR_mk (by decide) (by decide))) kv_X12_fails zN398 (zE_9 zK398) rfl zk_1687 rfl hl.1 rfl (Nat.le_of_ble_eq_true rfl) (by decide) (by decide) dX12_doSay_26 (fun r5 zMr5 zFr5 H locs hrr5 hp Wd => ?_)
    obtain ⟨rfl, rfl, rfl⟩ := hp
    exact z_iret C0 Wd hret hlk (zR_mk (by decide) (by decide)) (by have e : (zdSay x0 x1 x2 (zM0 399)) = ((1, 0, zM0 399) : zO) := (by unfold zdSay; first | (rw [if_pos (by omega)]; done) | (rw [if_neg (by omega), if_pos (by omega)]; done) | (rw [if_neg (by omega), if_neg (by omega), if_pos (by omega)]; done)); rw [e]; exact Or.inl ⟨(by show (0 : Int) < 1; decide), rfl, rfl, rfl⟩) dX12_doSay_29
  · skip
    refine z_aload_n C0 hl 1 rfl dX12_doSay_16 ?_
    refine z_iload_n C0 hl 3 rfl dX12_doSay_17 ?_
    refine z_invVi (As := [.int (zI x1)]) (rest := []) C0 Wd (ct_X12_isHare l g ad zM0 zF0 x1 hx1 (by omega)) kv_X12_isHare zN398 (zE_9 zK398) rfl zk_1793 rfl hl.1 rfl (Nat.le_of_ble_eq_true rfl) (by decide) (by decide) dX12_doSay_18 (fun r7 zMr7 zFr7 H locs hrr7 hp Wd => ?_)
    obtain ⟨rfl, rfl, rfl⟩ := hp
    refine z_if_ne_b C0 (tgt := 30) dX12_doSay_21 (by decide) (fun c9 => ?_) (fun c9 => ?_)
    · skip
      refine z_iload_n C0 hl 2 rfl dX12_doSay_30 ?_
      refine z_iload_n C0 hl 3 rfl dX12_doSay_31 ?_
      refine z_icmp_eq C0 (tgt := 45) hx0 hx1 dX12_doSay_32 (by decide) (fun c10 => ?_) (fun c10 => ?_)
      · skip
        refine z_aload_n C0 hl 1 rfl dX12_doSay_45 ?_
        refine z_iconst C0 dX12_doSay_46 ?_
        refine z_invVi (As := [.int (zI 2)]) (rest := []) C0 Wd (ct_X12_fails l g ad zM0 zF0 2 (zR_mk (by decide) (by decide))) kv_X12_fails zN398 (zE_9 zK398) rfl zk_1687 rfl hl.1 rfl (Nat.le_of_ble_eq_true rfl) (by decide) (by decide) dX12_doSay_47 (fun r11 zMr11 zFr11 H locs hrr11 hp Wd => ?_)
        obtain ⟨rfl, rfl, rfl⟩ := hp
        exact z_iret C0 Wd hret hlk (zR_mk (by decide) (by decide)) (by have e : (zdSay x0 x1 x2 (zM0 399)) = ((2, 0, zM0 399) : zO) := (by unfold zdSay; first | (rw [if_pos (by omega)]; done) | (rw [if_neg (by omega), if_pos (by omega)]; done) | (rw [if_neg (by omega), if_neg (by omega), if_pos (by omega)]; done)); rw [e]; exact Or.inl ⟨(by show (0 : Int) < 2; decide), rfl, rfl, rfl⟩) dX12_doSay_50
      · skip
        refine z_iload_n C0 hl 4 rfl dX12_doSay_35 ?_
        refine z_iconst C0 dX12_doSay_36 ?_
        refine z_bipush C0 dX12_doSay_37 (by decide) ?_
        refine z_invSi (As := [.int (zI x2), .int (zI 0), .int (zI 15)]) (rest := []) C0 Wd (ct_X12_in l g ad zM0 zF0 x2 hx2 0 (zR_mk (by decide) (by decide)) 15 (zR_mk (by decide) (by decide))) kv_X12_in zk_1707 rfl hl.1 rfl (Nat.le_of_ble_eq_true rfl) (by decide) (by decide) dX12_doSay_39 (fun r13 zMr13 zFr13 H locs hrr13 hp Wd => ?_)
        obtain ⟨rfl, rfl, rfl⟩ := hp
        refine z_if_ne_b C0 (tgt := 51) dX12_doSay_42 (by decide) (fun c15 => ?_) (fun c15 => ?_)
        · skip
          refine z_iload C0 hl 0 rfl dX12_doSay_51 ?_
          refine z_bipush C0 dX12_doSay_53 (by decide) ?_
          refine z_icmp_ne C0 (tgt := 64) hz1 (zR_mk (by decide) (by decide)) dX12_doSay_55 (by decide) (fun c16 => ?_) (fun c16 => ?_)
          · skip
            refine z_iconst C0 dX12_doSay_64 ?_
            refine z_istore C0 hl [(5, .int (zI 0)), (4, .int (zI (zM0 399 2))), (0, .ref (ad 398)), (1, .int (zI x0)), (2, .int (zI x1)), (3, .int (zI x2))] (by decide) rfl dX12_doSay_65 (fun ls hl => ?_)
            have aft67 : ∀ (k67 : Nat) (hk67 : (k67 : Int) ≤ 47) (v67 : Int → Int) (hv : v67 = (zfold (fun k W => zup W (96 + 47 * zM0 399 2 + k) 0) k67 (zM0 399))) (hx67 : (k67 : Int) = 47) (H : Heap) (locs : List Loc) (ls : Array Slot) (Wd : zW g (zA 410 ad s.heap.size) s.heap 410 ad (zrow zM0 399 v67) zF0 H locs) (hl : lv_has ls 6 [(0, .ref (ad 398)), (1, .int (zI x0)), (2, .int (zI x1)), (3, .int (zI x2)), (4, .int (zI (zM0 399 2))), (5, .int (zI (k67 : Int)))]), W p l e (zrm 2 0 0) s m args below meth c H locs 0 0 (zMQ below g 410 ad (zPi (fun r M' F' => ((0 < (zdSay x0 x1 x2 (zM0 399)).1) ∧ 0 = r ∧ (zu zM0 398 8 (zdSay x0 x1 x2 (zM0 399)).1) = M' ∧ zF0 = F') ∨ (((zdSay x0 x1 x2 (zM0 399)).1 = 0) ∧ (zdSay x0 x1 x2 (zM0 399)).2.1 = r ∧ (zrow zM0 399 (zdSay x0 x1 x2 (zM0 399)).2.2) = M' ∧ zF0 = F'))) args s 0 0) (F0 m 89 ls []) := by
              intro k67 hk67 v67 hv hx67 H locs ls Wd hl
              replace hl : lv_has ls 6 [(0, .ref (ad 398)), (1, .int (zI x0)), (2, .int (zI x1)), (3, .int (zI x2)), (4, .int (zI (zM0 399 2)))] := lv_sub hl [0, 1, 2, 3, 4] rfl
              have elo : ∀ j, j < 96 → v67 j = zM0 399 j := by rw [hv]; exact fun j hj => zfill_lo k67 hj h2.1
              have e2 := elo 2 (by decide)
              have e3 := elo 3 (by decide)
              obtain rfl : k67 = 47 := by omega
              refine z_aload_n C0 hl 0 rfl dX12_doSay_89 ?_
              refine z_iload C0 hl 4 rfl dX12_doSay_90 ?_
              refine z_iconst C0 dX12_doSay_92 ?_
              refine z_aload_n C0 hl 0 rfl dX12_doSay_93 ?_
              refine zg_9_0 C0 Wd zN398 zK398 zk_1612 dX12_doSay_94 ?_
              refine z_iconst C0 dX12_doSay_97 ?_
              refine z_iald C0 Wd zN399 zK399 zL399 (by decide) (by decide) (by decide) dX12_doSay_98 ?_
              obtain ⟨he19, hz17⟩ : ((zrow zM0 399 v67) 399 3) = (v67 3) ∧ zR (v67 3) := (fun q => ⟨q, q ▸ Wd.rm _ _⟩) (congrFun (zrow_same _ _ _) _)
              refine z_top (congrArg zI he19) ?_
              clear he19
              refine z_invVv (As := [.int (zI (zM0 399 2)), .int (zI 0), .int (zI (v67 3))]) (rest := []) C0 Wd (ct_X12_sets l g ad (zrow zM0 399 v67) zF0 (zM0 399 2) hz1 0 (zR_mk (by decide) (by decide)) (v67 3) hz17 (by omega)) kv_X12_sets zN398 (zE_9 zK398) rfl zk_1853 rfl hl.1 rfl (Nat.le_of_ble_eq_true rfl) (by decide) (by decide) dX12_doSay_99 (fun zMr20 zFr20 H locs hp Wd => ?_)
              obtain ⟨rfl, rfl⟩ := hp
              replace Wd := zW.mem Wd (show _ = (zrow zM0 399 (zup v67 (96 + 47 * (zM0 399 2) + 0) (v67 3))) from (zu_zrow zM0 399 v67 (96 + 47 * (zM0 399 2) + 0) (v67 3)))
              refine z_aload_n C0 hl 0 rfl dX12_doSay_102 ?_
              refine z_iload C0 hl 4 rfl dX12_doSay_103 ?_
              refine z_iconst C0 dX12_doSay_105 ?_
              refine z_iload_n C0 hl 1 rfl dX12_doSay_106 ?_
              refine z_invVv (As := [.int (zI (zM0 399 2)), .int (zI 1), .int (zI x0)]) (rest := []) C0 Wd (ct_X12_sets l g ad (zrow zM0 399 (zup v67 (96 + 47 * (zM0 399 2) + 0) (v67 3))) zF0 (zM0 399 2) hz1 1 (zR_mk (by decide) (by decide)) x0 hx0 (by omega)) kv_X12_sets zN398 (zE_9 zK398) rfl zk_1853 rfl hl.1 rfl (Nat.le_of_ble_eq_true rfl) (by decide) (by decide) dX12_doSay_107 (fun zMr22 zFr22 H locs hp Wd => ?_)
              obtain ⟨rfl, rfl⟩ := hp
              replace Wd := zW.mem Wd (show _ = (zrow zM0 399 (zup (zup v67 (96 + 47 * (zM0 399 2) + 0) (v67 3)) (96 + 47 * (zM0 399 2) + 1) x0)) from (zu_zrow zM0 399 (zup v67 (96 + 47 * (zM0 399 2) + 0) (v67 3)) (96 + 47 * (zM0 399 2) + 1) x0))
              refine z_aload_n C0 hl 0 rfl dX12_doSay_110 ?_
              refine z_iload C0 hl 4 rfl dX12_doSay_111 ?_
              refine z_iconst C0 dX12_doSay_113 ?_
              refine z_iload_n C0 hl 2 rfl dX12_doSay_114 ?_
              refine z_invVv (As := [.int (zI (zM0 399 2)), .int (zI 2), .int (zI x1)]) (rest := []) C0 Wd (ct_X12_sets l g ad (zrow zM0 399 (zup (zup v67 (96 + 47 * (zM0 399 2) + 0) (v67 3)) (96 + 47 * (zM0 399 2) + 1) x0)) zF0 (zM0 399 2) hz1 2 (zR_mk (by decide) (by decide)) x1 hx1 (by omega)) kv_X12_sets zN398 (zE_9 zK398) rfl zk_1853 rfl hl.1 rfl (Nat.le_of_ble_eq_true rfl) (by decide) (by decide) dX12_doSay_115 (fun zMr24 zFr24 H locs hp Wd => ?_)
              obtain ⟨rfl, rfl⟩ := hp
              replace Wd := zW.mem Wd (show _ = (zrow zM0 399 (zup (zup (zup v67 (96 + 47 * (zM0 399 2) + 0) (v67 3)) (96 + 47 * (zM0 399 2) + 1) x0) (96 + 47 * (zM0 399 2) + 2) x1)) from (zu_zrow zM0 399 (zup (zup v67 (96 + 47 * (zM0 399 2) + 0) (v67 3)) (96 + 47 * (zM0 399 2) + 1) x0) (96 + 47 * (zM0 399 2) + 2) x1))
              refine z_aload_n C0 hl 0 rfl dX12_doSay_118 ?_
              refine z_iload C0 hl 4 rfl dX12_doSay_119 ?_
              refine z_iconst C0 dX12_doSay_121 ?_
              refine z_iload_n C0 hl 3 rfl dX12_doSay_122 ?_
              refine z_invVv (As := [.int (zI (zM0 399 2)), .int (zI 3), .int (zI x2)]) (rest := []) C0 Wd (ct_X12_sets l g ad (zrow zM0 399 (zup (zup (zup v67 (96 + 47 * (zM0 399 2) + 0) (v67 3)) (96 + 47 * (zM0 399 2) + 1) x0) (96 + 47 * (zM0 399 2) + 2) x1)) zF0 (zM0 399 2) hz1 3 (zR_mk (by decide) (by decide)) x2 hx2 (by omega)) kv_X12_sets zN398 (zE_9 zK398) rfl zk_1853 rfl hl.1 rfl (Nat.le_of_ble_eq_true rfl) (by decide) (by decide) dX12_doSay_123 (fun zMr26 zFr26 H locs hp Wd => ?_)
              obtain ⟨rfl, rfl⟩ := hp
              replace Wd := zW.mem Wd (show _ = (zrow zM0 399 (zup (zup (zup (zup v67 (96 + 47 * (zM0 399 2) + 0) (v67 3)) (96 + 47 * (zM0 399 2) + 1) x0) (96 + 47 * (zM0 399 2) + 2) x1) (96 + 47 * (zM0 399 2) + 3) x2)) from (zu_zrow zM0 399 (zup (zup (zup v67 (96 + 47 * (zM0 399 2) + 0) (v67 3)) (96 + 47 * (zM0 399 2) + 1) x0) (96 + 47 * (zM0 399 2) + 2) x1) (96 + 47 * (zM0 399 2) + 3) x2))
              refine z_aload_n C0 hl 0 rfl dX12_doSay_126 ?_
              refine z_iload C0 hl 4 rfl dX12_doSay_127 ?_
              refine z_iconst C0 dX12_doSay_129 ?_
              refine z_bipush C0 dX12_doSay_130 (by decide) ?_
              refine z_invVv (As := [.int (zI (zM0 399 2)), .int (zI 4), .int (zI 119)]) (rest := []) C0 Wd (ct_X12_sets l g ad (zrow zM0 399 (zup (zup (zup (zup v67 (96 + 47 * (zM0 399 2) + 0) (v67 3)) (96 + 47 * (zM0 399 2) + 1) x0) (96 + 47 * (zM0 399 2) + 2) x1) (96 + 47 * (zM0 399 2) + 3) x2)) zF0 (zM0 399 2) hz1 4 (zR_mk (by decide) (by decide)) 119 (zR_mk (by decide) (by decide)) (by omega)) kv_X12_sets zN398 (zE_9 zK398) rfl zk_1853 rfl hl.1 rfl (Nat.le_of_ble_eq_true rfl) (by decide) (by decide) dX12_doSay_132 (fun zMr28 zFr28 H locs hp Wd => ?_)
              obtain ⟨rfl, rfl⟩ := hp
              replace Wd := zW.mem Wd (show _ = (zrow zM0 399 (zup (zup (zup (zup (zup v67 (96 + 47 * (zM0 399 2) + 0) (v67 3)) (96 + 47 * (zM0 399 2) + 1) x0) (96 + 47 * (zM0 399 2) + 2) x1) (96 + 47 * (zM0 399 2) + 3) x2) (96 + 47 * (zM0 399 2) + 4) 119)) from (zu_zrow zM0 399 (zup (zup (zup (zup v67 (96 + 47 * (zM0 399 2) + 0) (v67 3)) (96 + 47 * (zM0 399 2) + 1) x0) (96 + 47 * (zM0 399 2) + 2) x1) (96 + 47 * (zM0 399 2) + 3) x2) (96 + 47 * (zM0 399 2) + 4) 119))
              refine z_aload_n C0 hl 0 rfl dX12_doSay_135 ?_
              refine zg_9_0 C0 Wd zN398 zK398 zk_1612 dX12_doSay_136 ?_
              refine z_iconst C0 dX12_doSay_139 ?_
              refine z_dup2 C0 rfl rfl dX12_doSay_140 ?_
              refine z_iald C0 Wd zN399 zK399 zL399 (by decide) (by decide) (by decide) dX12_doSay_141 ?_
              obtain ⟨he32, hz30⟩ : ((zrow zM0 399 (zup (zup (zup (zup (zup v67 (96 + 47 * (zM0 399 2) + 0) (v67 3)) (96 + 47 * (zM0 399 2) + 1) x0) (96 + 47 * (zM0 399 2) + 2) x1) (96 + 47 * (zM0 399 2) + 3) x2) (96 + 47 * (zM0 399 2) + 4) 119)) 399 2) = (v67 2) ∧ zR (v67 2) := (fun q => ⟨q, q ▸ Wd.rm _ _⟩) ((congrFun (zrow_same _ _ _) _).trans ((zup_ne (by omega)).trans ((zup_ne (by omega)).trans ((zup_ne (by omega)).trans ((zup_ne (by omega)).trans (zup_ne (by omega)))))))
              refine z_top (congrArg zI he32) ?_
              clear he32
              refine z_iconst C0 dX12_doSay_142 ?_
              refine z_iadd C0 dX12_doSay_143 ?_
              refine z_iast C0 Wd zN399 zK399 zL399 (by decide) (by decide) (by decide) (by have q0 := hz30.1; have p0 := hz30.2; exact zR_mk (by omega) (by omega)) dX12_doSay_144 (fun H locs Wd => ?_)
              replace Wd := zW.mem Wd (show _ = (zrow zM0 399 (zup (zup (zup (zup (zup (zup v67 (96 + 47 * (zM0 399 2) + 0) (v67 3)) (96 + 47 * (zM0 399 2) + 1) x0) (96 + 47 * (zM0 399 2) + 2) x1) (96 + 47 * (zM0 399 2) + 3) x2) (96 + 47 * (zM0 399 2) + 4) 119) 2 ((v67 2) + 1))) from (zu_zrow zM0 399 (zup (zup (zup (zup (zup v67 (96 + 47 * (zM0 399 2) + 0) (v67 3)) (96 + 47 * (zM0 399 2) + 1) x0) (96 + 47 * (zM0 399 2) + 2) x1) (96 + 47 * (zM0 399 2) + 3) x2) (96 + 47 * (zM0 399 2) + 4) 119) 2 ((v67 2) + 1)))
              refine z_aload_n C0 hl 0 rfl dX12_doSay_145 ?_
              refine zg_9_0 C0 Wd zN398 zK398 zk_1612 dX12_doSay_146 ?_
              refine z_iconst C0 dX12_doSay_149 ?_
              refine z_dup2 C0 rfl rfl dX12_doSay_150 ?_
              refine z_iald C0 Wd zN399 zK399 zL399 (by decide) (by decide) (by decide) dX12_doSay_151 ?_
              obtain ⟨he35, hz33⟩ : ((zrow zM0 399 (zup (zup (zup (zup (zup (zup v67 (96 + 47 * (zM0 399 2) + 0) (v67 3)) (96 + 47 * (zM0 399 2) + 1) x0) (96 + 47 * (zM0 399 2) + 2) x1) (96 + 47 * (zM0 399 2) + 3) x2) (96 + 47 * (zM0 399 2) + 4) 119) 2 ((v67 2) + 1))) 399 3) = (v67 3) ∧ zR (v67 3) := (fun q => ⟨q, q ▸ Wd.rm _ _⟩) ((congrFun (zrow_same _ _ _) _).trans ((zup_ne (by omega)).trans ((zup_ne (by omega)).trans ((zup_ne (by omega)).trans ((zup_ne (by omega)).trans ((zup_ne (by omega)).trans (zup_ne (by omega))))))))
              refine z_top (congrArg zI he35) ?_
              clear he35
              refine z_iconst C0 dX12_doSay_152 ?_
              refine z_iadd C0 dX12_doSay_153 ?_
              refine z_iast C0 Wd zN399 zK399 zL399 (by decide) (by decide) (by decide) (by have q0 := hz33.1; have p0 := hz33.2; exact zR_mk (by omega) (by omega)) dX12_doSay_154 (fun H locs Wd => ?_)
              replace Wd := zW.mem Wd (show _ = (zrow zM0 399 (zup (zup (zup (zup (zup (zup (zup v67 (96 + 47 * (zM0 399 2) + 0) (v67 3)) (96 + 47 * (zM0 399 2) + 1) x0) (96 + 47 * (zM0 399 2) + 2) x1) (96 + 47 * (zM0 399 2) + 3) x2) (96 + 47 * (zM0 399 2) + 4) 119) 2 ((v67 2) + 1)) 3 ((v67 3) + 1))) from (zu_zrow zM0 399 (zup (zup (zup (zup (zup (zup v67 (96 + 47 * (zM0 399 2) + 0) (v67 3)) (96 + 47 * (zM0 399 2) + 1) x0) (96 + 47 * (zM0 399 2) + 2) x1) (96 + 47 * (zM0 399 2) + 3) x2) (96 + 47 * (zM0 399 2) + 4) 119) 2 ((v67 2) + 1)) 3 ((v67 3) + 1)))
              refine z_aload_n C0 hl 0 rfl dX12_doSay_155 ?_
              refine zg_9_0 C0 Wd zN398 zK398 zk_1612 dX12_doSay_156 ?_
              refine z_iconst C0 dX12_doSay_159 ?_
              refine z_iald C0 Wd zN399 zK399 zL399 (by decide) (by decide) (by decide) dX12_doSay_160 ?_
              obtain ⟨he38, hz36⟩ : ((zrow zM0 399 (zup (zup (zup (zup (zup (zup (zup v67 (96 + 47 * (zM0 399 2) + 0) (v67 3)) (96 + 47 * (zM0 399 2) + 1) x0) (96 + 47 * (zM0 399 2) + 2) x1) (96 + 47 * (zM0 399 2) + 3) x2) (96 + 47 * (zM0 399 2) + 4) 119) 2 ((v67 2) + 1)) 3 ((v67 3) + 1))) 399 3) = ((v67 3) + 1) ∧ zR ((v67 3) + 1) := (fun q => ⟨q, q ▸ Wd.rm _ _⟩) ((congrFun (zrow_same _ _ _) _).trans (zup_same _ _ _))
              refine z_top (congrArg zI he38) ?_
              clear he38
              refine z_iconst C0 dX12_doSay_161 ?_
              refine z_isub C0 dX12_doSay_162 ?_
              exact z_iret C0 Wd hret hlk (by have q0 := hz36.1; have p0 := hz36.2; exact zR_mk (by omega) (by omega)) (by have e : (zdSay x0 x1 x2 (zM0 399)) = ((0, (((v67 3) + 1) - 1), zup (zup (zup (zup (zup (zup (zup v67 (96 + 47 * (zM0 399 2) + 0) (v67 3)) (96 + 47 * (zM0 399 2) + 1) x0) (96 + 47 * (zM0 399 2) + 2) x1) (96 + 47 * (zM0 399 2) + 3) x2) (96 + 47 * (zM0 399 2) + 4) 119) 2 ((v67 2) + 1)) 3 ((v67 3) + 1)) : zO) := (by unfold zdSay zdSayR; rw [← hv, if_neg (by omega), if_neg (by omega), if_neg (by omega), e2, e3]); rw [e]; exact Or.inr ⟨rfl, rfl, rfl, rfl⟩) dX12_doSay_163
            have lp67 : ∀ (d67 k67 : Nat) (hk67 : (k67 : Int) + d67 = 47) (v67 : Int → Int) (hv : v67 = (zfold (fun k W => zup W (96 + 47 * zM0 399 2 + k) 0) k67 (zM0 399))) (H : Heap) (locs : List Loc) (ls : Array Slot) (Wd : zW g (zA 410 ad s.heap.size) s.heap 410 ad (zrow zM0 399 v67) zF0 H locs) (hl : lv_has ls 6 [(0, .ref (ad 398)), (1, .int (zI x0)), (2, .int (zI x1)), (3, .int (zI x2)), (4, .int (zI (zM0 399 2))), (5, .int (zI (k67 : Int)))]), W p l e (zrm 2 0 0) s m args below meth c H locs 0 0 (zMQ below g 410 ad (zPi (fun r M' F' => ((0 < (zdSay x0 x1 x2 (zM0 399)).1) ∧ 0 = r ∧ (zu zM0 398 8 (zdSay x0 x1 x2 (zM0 399)).1) = M' ∧ zF0 = F') ∨ (((zdSay x0 x1 x2 (zM0 399)).1 = 0) ∧ (zdSay x0 x1 x2 (zM0 399)).2.1 = r ∧ (zrow zM0 399 (zdSay x0 x1 x2 (zM0 399)).2.2) = M' ∧ zF0 = F'))) args s 0 0) (F0 m 67 ls []) := by
              intro d67
              induction d67 with
              | zero =>
                intro k67 hk67 v67 hv H locs ls Wd hl
                have elo : ∀ j, j < 96 → v67 j = zM0 399 j := by rw [hv]; exact fun j hj => zfill_lo k67 hj h2.1
                have e2 := elo 2 (by decide)
                have e3 := elo 3 (by decide)
                refine z_iload C0 hl 5 rfl dX12_doSay_67 ?_
                refine z_bipush C0 dX12_doSay_69 (by decide) ?_
                refine z_icmp_ge C0 (tgt := 89) (zR_mk (by omega) (by omega)) (zR_mk (by decide) (by decide)) dX12_doSay_71 (by decide) (fun c39 => ?_) (fun c39 => ?_)
                · skip
                  first | exact aft67 k67 (by omega) v67 hv (by first | assumption | omega) _ _ _ Wd (lv_sub hl [0, 1, 2, 3, 4, 5] rfl) | (exfalso; omega)
                · skip
                  exfalso; omega
              | succ d67 ih67 =>
                intro k67 hk67 v67 hv H locs ls Wd hl
                have elo : ∀ j, j < 96 → v67 j = zM0 399 j := by rw [hv]; exact fun j hj => zfill_lo k67 hj h2.1
                have e2 := elo 2 (by decide)
                have e3 := elo 3 (by decide)
                refine z_iload C0 hl 5 rfl dX12_doSay_67 ?_
                refine z_bipush C0 dX12_doSay_69 (by decide) ?_
                refine z_icmp_ge C0 (tgt := 89) (zR_mk (by omega) (by omega)) (zR_mk (by decide) (by decide)) dX12_doSay_71 (by decide) (fun c40 => ?_) (fun c40 => ?_)
                · skip
                  first | exact aft67 k67 (by omega) v67 hv (by first | assumption | omega) _ _ _ Wd (lv_sub hl [0, 1, 2, 3, 4, 5] rfl) | (exfalso; omega)
                · skip
                  refine z_aload_n C0 hl 0 rfl dX12_doSay_74 ?_
                  refine z_iload C0 hl 4 rfl dX12_doSay_75 ?_
                  refine z_iload C0 hl 5 rfl dX12_doSay_77 ?_
                  refine z_iconst C0 dX12_doSay_79 ?_
                  refine z_invVv (As := [.int (zI (zM0 399 2)), .int (zI (k67 : Int)), .int (zI 0)]) (rest := []) C0 Wd (ct_X12_sets l g ad (zrow zM0 399 v67) zF0 (zM0 399 2) hz1 (k67 : Int) (zR_mk (by omega) (by omega)) 0 (zR_mk (by decide) (by decide)) (by omega)) kv_X12_sets zN398 (zE_9 zK398) rfl zk_1853 rfl hl.1 rfl (Nat.le_of_ble_eq_true rfl) (by decide) (by decide) dX12_doSay_80 (fun zMr41 zFr41 H locs hp Wd => ?_)
                  obtain ⟨rfl, rfl⟩ := hp
                  replace Wd := zW.mem Wd (show _ = (zrow zM0 399 (zup v67 (96 + 47 * (zM0 399 2) + (k67 : Int)) 0)) from (zu_zrow zM0 399 v67 (96 + 47 * (zM0 399 2) + (k67 : Int)) 0))
                  refine z_iinc C0 hl 5 (t := (k67 : Int)) (u := ((k67 : Int) + 1)) rfl (by omega) [(5, .int (zI ((k67 : Int) + 1))), (0, .ref (ad 398)), (1, .int (zI x0)), (2, .int (zI x1)), (3, .int (zI x2)), (4, .int (zI (zM0 399 2)))] (by decide) rfl dX12_doSay_83 (fun ls hl => ?_)
                  refine z_goto C0 (tgt := 67) dX12_doSay_86 (by decide) ?_
                  exact ih67 (k67 + 1) (by omega) (zup v67 (96 + 47 * (zM0 399 2) + (k67 : Int)) 0) (by show _ = zup _ _ _; rw [← hv]) _ _ _ Wd (lv_sub hl [1, 2, 3, 4, 5, 0] rfl)
            exact lp67 47 0 (by omega) (zM0 399) rfl _ _ _ (by rw [zrow_eta]; exact Wd) (lv_sub hl [2, 3, 4, 5, 1, 0] rfl)
          · skip
            refine z_aload_n C0 hl 1 rfl dX12_doSay_58 ?_
            refine z_iconst C0 dX12_doSay_59 ?_
            refine z_invVi (As := [.int (zI 3)]) (rest := []) C0 Wd (ct_X12_fails l g ad zM0 zF0 3 (zR_mk (by decide) (by decide))) kv_X12_fails zN398 (zE_9 zK398) rfl zk_1687 rfl hl.1 rfl (Nat.le_of_ble_eq_true rfl) (by decide) (by decide) dX12_doSay_60 (fun r43 zMr43 zFr43 H locs hrr43 hp Wd => ?_)
            obtain ⟨rfl, rfl, rfl⟩ := hp
            exact z_iret C0 Wd hret hlk (zR_mk (by decide) (by decide)) (by have e : (zdSay x0 x1 x2 (zM0 399)) = ((3, 0, zM0 399) : zO) := (by unfold zdSay; first | (rw [if_pos (by omega)]; done) | (rw [if_neg (by omega), if_pos (by omega)]; done) | (rw [if_neg (by omega), if_neg (by omega), if_pos (by omega)]; done)); rw [e]; exact Or.inl ⟨(by show (0 : Int) < 3; decide), rfl, rfl, rfl⟩) dX12_doSay_63
        · skip
          refine z_aload_n C0 hl 1 rfl dX12_doSay_45 ?_
          refine z_iconst C0 dX12_doSay_46 ?_
          refine z_invVi (As := [.int (zI 2)]) (rest := []) C0 Wd (ct_X12_fails l g ad zM0 zF0 2 (zR_mk (by decide) (by decide))) kv_X12_fails zN398 (zE_9 zK398) rfl zk_1687 rfl hl.1 rfl (Nat.le_of_ble_eq_true rfl) (by decide) (by decide) dX12_doSay_47 (fun r45 zMr45 zFr45 H locs hrr45 hp Wd => ?_)
          obtain ⟨rfl, rfl, rfl⟩ := hp
          exact z_iret C0 Wd hret hlk (zR_mk (by decide) (by decide)) (by have e : (zdSay x0 x1 x2 (zM0 399)) = ((2, 0, zM0 399) : zO) := (by unfold zdSay; first | (rw [if_pos (by omega)]; done) | (rw [if_neg (by omega), if_pos (by omega)]; done) | (rw [if_neg (by omega), if_neg (by omega), if_pos (by omega)]; done)); rw [e]; exact Or.inl ⟨(by show (0 : Int) < 2; decide), rfl, rfl, rfl⟩) dX12_doSay_50
    · skip
      refine z_aload_n C0 hl 1 rfl dX12_doSay_24 ?_
      refine z_iconst C0 dX12_doSay_25 ?_
      refine z_invVi (As := [.int (zI 1)]) (rest := []) C0 Wd (ct_X12_fails l g ad zM0 zF0 1 (zR_mk (by decide) (by decide))) kv_X12_fails zN398 (zE_9 zK398) rfl zk_1687 rfl hl.1 rfl (Nat.le_of_ble_eq_true rfl) (by decide) (by decide) dX12_doSay_26 (fun r47 zMr47 zFr47 H locs hrr47 hp Wd => ?_)
      obtain ⟨rfl, rfl, rfl⟩ := hp
      exact z_iret C0 Wd hret hlk (zR_mk (by decide) (by decide)) (by have e : (zdSay x0 x1 x2 (zM0 399)) = ((1, 0, zM0 399) : zO) := (by unfold zdSay; first | (rw [if_pos (by omega)]; done) | (rw [if_neg (by omega), if_pos (by omega)]; done) | (rw [if_neg (by omega), if_neg (by omega), if_pos (by omega)]; done)); rw [e]; exact Or.inl ⟨(by show (0 : Int) < 1; decide), rfl, rfl, rfl⟩) dX12_doSay_29
theorem kv_X12_doForget : zKV yX12_doForget cX12_doForget 4 (some .int) "DrumWarrenModel" 1 := ⟨zk_1864, zk_1863, zk_44, zk_80, by decide, by decide, by decide +kernel⟩
set_option maxHeartbeats 4000000 in
set_option maxRecDepth 100000 in
theorem ct_X12_doForget (l : Launch) (g : zG) (ad : Int → Nat) (zM0 zF0 : zMem) (x0 : Int) (hx0 : zR x0) (h2 : 0 ≤ zM0 399 2 ∧ zM0 399 2 ≤ 8) : zMt l yX12_doForget cX12_doForget 4 (some .int) 2 0 0 g 410 ad [.ref (ad 398), .int (zI x0)] zM0 zF0 (zPi (fun r M' F' => ((0 < (zdFo x0 (zM0 399)).1) ∧ 0 = r ∧ (zu zM0 398 8 (zdFo x0 (zM0 399)).1) = M' ∧ zF0 = F') ∨ (((zdFo x0 (zM0 399)).1 = 0) ∧ (zdFo x0 (zM0 399)).2.1 = r ∧ (zrow zM0 399 (zdFo x0 (zM0 399)).2.2) = M' ∧ zF0 = F'))) := by
  refine zMt.of "DrumWarrenModel" rfl (by decide) (Nat.le_of_ble_eq_true rfl) (fun {p e s m args below meth c ls} C0 Wd hl hret hlk hin => ?_)
  have hl : lv_has ls 4 [(0, .ref (ad 398)), (1, .int (zI x0))] := hl
  refine z_aload_n C0 hl 0 rfl dX12_doForget_0 ?_
  refine z_iload_n C0 hl 1 rfl dX12_doForget_1 ?_
  refine z_invVi (As := [.int (zI x0)]) (rest := []) C0 Wd (ct_X12_placeOf l g ad zM0 zF0 x0 hx0 (by omega)) kv_X12_placeOf zN398 (zE_9 zK398) rfl zk_1865 rfl hl.1 rfl (Nat.le_of_ble_eq_true rfl) (by decide) (by decide) dX12_doForget_2 (fun r1 zMr1 zFr1 H locs hrr1 hp Wd => ?_)
  obtain ⟨rfl, rfl, rfl⟩ := hp
  refine z_istore_n C0 hl [(2, .int (zI (zlast (fun q => zM0 399 (96 + 47 * q + 0) = x0) (zM0 399 2).toNat))), (0, .ref (ad 398)), (1, .int (zI x0))] (by decide) rfl dX12_doForget_5 (fun ls hl => ?_)
  refine z_iload_n C0 hl 0 rfl dX12_doForget_6 ?_
  have hpl : -1 ≤ zlast (fun q => zM0 399 (96 + 47 * q + 0) = x0) (zM0 399 2).toNat ∧ zlast (fun q => zM0 399 (96 + 47 * q + 0) = x0) (zM0 399 2).toNat < zM0 399 2 := by have := zlast_bd (P := fun q => zM0 399 (96 + 47 * q + 0) = x0) (zM0 399 2).toNat; omega
  refine z_if_ge C0 (tgt := 16) hrr1 dX12_doForget_7 (by decide) (fun c3 => ?_) (fun c3 => ?_)
  · skip
    refine z_aload_n C0 hl 1 rfl dX12_doForget_16 ?_
    refine z_iload_n C0 hl 0 rfl dX12_doForget_17 ?_
    refine z_iconst C0 dX12_doForget_18 ?_
    refine z_invVi (As := [.int (zI (zlast (fun q => zM0 399 (96 + 47 * q + 0) = x0) (zM0 399 2).toNat)), .int (zI 4)]) (rest := []) C0 Wd (ct_X12_of l g ad zM0 zF0 (zlast (fun q => zM0 399 (96 + 47 * q + 0) = x0) (zM0 399 2).toNat) hrr1 4 (zR_mk (by decide) (by decide)) (by omega)) kv_X12_of zN398 (zE_9 zK398) rfl zk_1801 rfl hl.1 rfl (Nat.le_of_ble_eq_true rfl) (by decide) (by decide) dX12_doForget_19 (fun r4 zMr4 zFr4 H locs hrr4 hp Wd => ?_)
    obtain ⟨rfl, rfl, rfl⟩ := hp
    refine z_bipush C0 dX12_doForget_22 (by decide) ?_
    refine z_icmp_ne C0 (tgt := 33) hrr4 (zR_mk (by decide) (by decide)) dX12_doForget_24 (by decide) (fun c6 => ?_) (fun c6 => ?_)
    · skip
      refine z_aload_n C0 hl 1 rfl dX12_doForget_33 ?_
      refine zg_9_0 C0 Wd zN398 zK398 zk_1612 dX12_doForget_34 ?_
      refine z_iconst C0 dX12_doForget_37 ?_
      refine z_dup2 C0 rfl rfl dX12_doForget_38 ?_
      refine z_iald C0 Wd zN399 zK399 zL399 (by decide) (by decide) (by decide) dX12_doForget_39 ?_
      have hz7 : zR (zM0 399 2) := Wd.rm _ _
      refine z_iconst C0 dX12_doForget_40 ?_
      refine z_isub C0 dX12_doForget_41 ?_
      refine z_iast C0 Wd zN399 zK399 zL399 (by decide) (by decide) (by decide) (by have q0 := hz7.1; have p0 := hz7.2; exact zR_mk (by omega) (by omega)) dX12_doForget_42 (fun H locs Wd => ?_)
      replace Wd := zW.mem Wd (show _ = (zrow zM0 399 (zup (zM0 399) 2 ((zM0 399 2) - 1))) from ((zu_c 399 2 ((zM0 399 2) - 1) (zrow_eta zM0 399).symm).trans (zu_zrow zM0 399 (zM0 399) 2 ((zM0 399 2) - 1))))
      refine z_bipush C0 dX12_doForget_43 (by decide) ?_
      refine z_bipush C0 dX12_doForget_45 (by decide) ?_
      refine z_iload_n C0 hl 0 rfl dX12_doForget_47 ?_
      refine z_imul C0 dX12_doForget_48 ?_
      refine z_iadd C0 dX12_doForget_49 ?_
      refine z_istore_n C0 hl [(3, .int (zI (96 + (47 * zlast (fun q => zM0 399 (96 + 47 * q + 0) = x0) (zM0 399 2).toNat)))), (2, .int (zI (zlast (fun q => zM0 399 (96 + 47 * q + 0) = x0) (zM0 399 2).toNat))), (0, .ref (ad 398)), (1, .int (zI x0))] (by decide) rfl dX12_doForget_50 (fun ls hl => ?_)
      refine z_aload_n C0 hl 2 rfl dX12_doForget_51 ?_
      refine zg_9_0 C0 Wd zN398 zK398 zk_1612 dX12_doForget_52 ?_
      refine z_iload_n C0 hl 0 rfl dX12_doForget_55 ?_
      refine z_bipush C0 dX12_doForget_56 (by decide) ?_
      refine z_iadd C0 dX12_doForget_58 ?_
      refine z_aload_n C0 hl 2 rfl dX12_doForget_59 ?_
      refine zg_9_0 C0 Wd zN398 zK398 zk_1612 dX12_doForget_60 ?_
      refine z_iload_n C0 hl 0 rfl dX12_doForget_63 ?_
      refine z_bipush C0 dX12_doForget_64 (by decide) ?_
      refine z_aload_n C0 hl 2 rfl dX12_doForget_66 ?_
      refine zg_9_0 C0 Wd zN398 zK398 zk_1612 dX12_doForget_67 ?_
      refine z_iconst C0 dX12_doForget_70 ?_
      refine z_iald C0 Wd zN399 zK399 zL399 (by decide) (by decide) (by decide) dX12_doForget_71 ?_
      obtain ⟨he10, hz8⟩ : ((zrow zM0 399 (zup (zM0 399) 2 ((zM0 399 2) - 1))) 399 2) = ((zM0 399 2) - 1) ∧ zR ((zM0 399 2) - 1) := (fun q => ⟨q, q ▸ Wd.rm _ _⟩) ((congrFun (zrow_same _ _ _) _).trans (zup_same _ _ _))
      refine z_top (congrArg zI he10) ?_
      clear he10
      refine z_iload_n C0 hl 1 rfl dX12_doForget_72 ?_
      refine z_isub C0 dX12_doForget_73 ?_
      refine z_imul C0 dX12_doForget_74 ?_
      refine z_copyi C0 Wd hl.1 zN399 zN399 zK399 zK399 zL399 zL399 (by decide) (by decide) (by omega) (by omega) (by omega) (by omega) (by omega) (by decide) zk_1682 dX12_doForget_75 (fun H locs Wd => ?_)
      replace Wd := zW.mem Wd (show _ = zrow zM0 399 (zdFoR (zlast (fun q => zM0 399 (96 + 47 * q + 0) = x0) (zM0 399 2).toNat) (zM0 399)) from zfo_mem)
      refine z_aload_n C0 hl 2 rfl dX12_doForget_78 ?_
      refine zg_9_0 C0 Wd zN398 zK398 zk_1612 dX12_doForget_79 ?_
      refine z_iconst C0 dX12_doForget_82 ?_
      refine z_iald C0 Wd zN399 zK399 zL399 (by decide) (by decide) (by decide) dX12_doForget_83 ?_
      obtain ⟨he12, hz11⟩ : ((zrow zM0 399 (zdFoR (zlast (fun q => zM0 399 (96 + 47 * q + 0) = x0) (zM0 399 2).toNat) (zM0 399))) 399 2) = (zM0 399 2 - 1) ∧ zR (zM0 399 2 - 1) := (fun q => ⟨q, q ▸ Wd.rm _ _⟩) (show (zrow zM0 399 (zdFoR (zlast (fun q => zM0 399 (96 + 47 * q + 0) = x0) (zM0 399 2).toNat) (zM0 399))) 399 2 = zM0 399 2 - 1 from zdFoR_2 (by omega))
      refine z_top (congrArg zI he12) ?_
      clear he12
      exact z_iret C0 Wd hret hlk hz11 (by have e : (zdFo x0 (zM0 399)) = ((0, (zM0 399 2 - 1), zdFoR (zlast (fun q => zM0 399 (96 + 47 * q + 0) = x0) (zM0 399 2).toNat) (zM0 399)) : zO) := (by unfold zdFo zpl; first | (rw [if_pos (by omega)]; done) | (rw [if_neg (by omega), if_pos (by assumption)]; done) | (rw [if_neg (by omega), if_neg (by assumption)]; done)); rw [e]; exact Or.inr ⟨rfl, rfl, rfl, rfl⟩) dX12_doForget_84
    · skip
      refine z_aload_n C0 hl 1 rfl dX12_doForget_27 ?_
      refine z_iconst C0 dX12_doForget_28 ?_
      refine z_invVi (As := [.int (zI 2)]) (rest := []) C0 Wd (ct_X12_fails l g ad zM0 zF0 2 (zR_mk (by decide) (by decide))) kv_X12_fails zN398 (zE_9 zK398) rfl zk_1687 rfl hl.1 rfl (Nat.le_of_ble_eq_true rfl) (by decide) (by decide) dX12_doForget_29 (fun r13 zMr13 zFr13 H locs hrr13 hp Wd => ?_)
      obtain ⟨rfl, rfl, rfl⟩ := hp
      exact z_iret C0 Wd hret hlk (zR_mk (by decide) (by decide)) (by have e : (zdFo x0 (zM0 399)) = ((2, 0, zM0 399) : zO) := (by unfold zdFo zpl; first | (rw [if_pos (by omega)]; done) | (rw [if_neg (by omega), if_pos (by assumption)]; done) | (rw [if_neg (by omega), if_neg (by assumption)]; done)); rw [e]; exact Or.inl ⟨(by show (0 : Int) < 2; decide), rfl, rfl, rfl⟩) dX12_doForget_32
  · skip
    refine z_aload_n C0 hl 1 rfl dX12_doForget_10 ?_
    refine z_iconst C0 dX12_doForget_11 ?_
    refine z_invVi (As := [.int (zI 1)]) (rest := []) C0 Wd (ct_X12_fails l g ad zM0 zF0 1 (zR_mk (by decide) (by decide))) kv_X12_fails zN398 (zE_9 zK398) rfl zk_1687 rfl hl.1 rfl (Nat.le_of_ble_eq_true rfl) (by decide) (by decide) dX12_doForget_12 (fun r15 zMr15 zFr15 H locs hrr15 hp Wd => ?_)
    obtain ⟨rfl, rfl, rfl⟩ := hp
    exact z_iret C0 Wd hret hlk (zR_mk (by decide) (by decide)) (by have e : (zdFo x0 (zM0 399)) = ((1, 0, zM0 399) : zO) := (by unfold zdFo zpl; first | (rw [if_pos (by omega)]; done) | (rw [if_neg (by omega), if_pos (by assumption)]; done) | (rw [if_neg (by omega), if_neg (by assumption)]; done)); rw [e]; exact Or.inl ⟨(by show (0 : Int) < 1; decide), rfl, rfl, rfl⟩) dX12_doForget_15
theorem kv_X12_doPassTicks : zKV yX12_doPassTicks cX12_doPassTicks 4 (some .int) "DrumWarrenModel" 1 := ⟨zk_1919, zk_1918, zk_47, zk_80, by decide, by decide, by decide +kernel⟩
set_option maxHeartbeats 4000000 in
set_option maxRecDepth 100000 in
theorem ct_X12_doPassTicks (l : Launch) (g : zG) (ad : Int → Nat) (zM0 zF0 : zMem) (zt : Int) (x0 : Int) (hx0 : zR x0) (hV : zIV zt (zM0 399)) (htd : zTD (zM0 399)) (ht : zt ≤ 80000000) : zMt l yX12_doPassTicks cX12_doPassTicks 4 (some .int) 6 0 0 g 410 ad [.ref (ad 398), .int (zI x0)] zM0 zF0 (zPi (fun r M' F' => ((0 < (zdPT x0 (zM0 399)).1) ∧ 0 = r ∧ (zu zM0 398 8 (zdPT x0 (zM0 399)).1) = M' ∧ zF0 = F') ∨ (∃ w : Int → Int, ((zdPT x0 (zM0 399)).1 = 0) ∧ (zdPT x0 (zM0 399)).2.1 = r ∧ (zrow (zrow zM0 399 (zdPT x0 (zM0 399)).2.2) 404 w) = M' ∧ zF0 = F'))) := by
  refine zMt.of "DrumWarrenModel" rfl (by decide) (Nat.le_of_ble_eq_true rfl) (fun {p e s m args below meth c ls} C0 Wd hl hret hlk hin => ?_)
  have hl : lv_has ls 4 [(0, .ref (ad 398)), (1, .int (zI x0))] := hl
  have hc6 := hV.2.2.2.1 6 (by decide) (by decide)
  refine z_iload_n C0 hl 1 rfl dX12_doPassTicks_0 ?_
  refine z_iconst C0 dX12_doPassTicks_1 ?_
  refine z_bipush C0 dX12_doPassTicks_2 (by decide) ?_
  refine z_invSi (As := [.int (zI x0), .int (zI 1), .int (zI 40)]) (rest := []) C0 Wd (ct_X12_in l g ad zM0 zF0 x0 hx0 1 (zR_mk (by decide) (by decide)) 40 (zR_mk (by decide) (by decide))) kv_X12_in zk_1707 rfl hl.1 rfl (Nat.le_of_ble_eq_true rfl) (by decide) (by decide) dX12_doPassTicks_4 (fun r1 zMr1 zFr1 H locs hrr1 hp Wd => ?_)
  obtain ⟨rfl, rfl, rfl⟩ := hp
  refine z_if_ne_b C0 (tgt := 16) dX12_doPassTicks_7 (by decide) (fun c3 => ?_) (fun c3 => ?_)
  · skip
    refine z_aload_n C0 hl 0 rfl dX12_doPassTicks_16 ?_
    refine zg_9_0 C0 Wd zN398 zK398 zk_1612 dX12_doPassTicks_17 ?_
    refine z_bipush C0 dX12_doPassTicks_20 (by decide) ?_
    refine z_iald C0 Wd zN399 zK399 zL399 (by decide) (by decide) (by decide) dX12_doPassTicks_22 ?_
    have hz4 : zR (zM0 399 6) := Wd.rm _ _
    refine z_istore_n C0 hl [(2, .int (zI (zM0 399 6))), (0, .ref (ad 398)), (1, .int (zI x0))] (by decide) rfl dX12_doPassTicks_23 (fun ls hl => ?_)
    refine z_iconst C0 dX12_doPassTicks_24 ?_
    refine z_istore_n C0 hl [(3, .int (zI 0)), (2, .int (zI (zM0 399 6))), (0, .ref (ad 398)), (1, .int (zI x0))] (by decide) rfl dX12_doPassTicks_25 (fun ls hl => ?_)
    have aft26 : ∀ (k26 : Nat) (hk26 : (k26 : Int) ≤ x0) (v26 : Int → Int) (r26 : Int → Int) (hv : v26 = zTks k26 (zM0 399)) (hx26 : (k26 : Int) = x0) (H : Heap) (locs : List Loc) (ls : Array Slot) (Wd : zW g (zA 410 ad s.heap.size) s.heap 410 ad (zrow (zrow zM0 399 v26) 404 r26) zF0 H locs) (hl : lv_has ls 4 [(0, .ref (ad 398)), (1, .int (zI x0)), (2, .int (zI (zM0 399 6))), (3, .int (zI (k26 : Int)))]), W p l e (zrm 6 0 0) s m args below meth c H locs 0 0 (zMQ below g 410 ad (zPi (fun r M' F' => ((0 < (zdPT x0 (zM0 399)).1) ∧ 0 = r ∧ (zu zM0 398 8 (zdPT x0 (zM0 399)).1) = M' ∧ zF0 = F') ∨ (∃ w : Int → Int, ((zdPT x0 (zM0 399)).1 = 0) ∧ (zdPT x0 (zM0 399)).2.1 = r ∧ (zrow (zrow zM0 399 (zdPT x0 (zM0 399)).2.2) 404 w) = M' ∧ zF0 = F'))) args s 0 0) (F0 m 41 ls []) := by
      intro k26 hk26 v26 r26 hv hx26 H locs ls Wd hl
      replace hl : lv_has ls 4 [(0, .ref (ad 398)), (1, .int (zI x0)), (2, .int (zI (zM0 399 6)))] := lv_sub hl [0, 1, 2] rfl
      obtain ⟨hI, hD, hk1, hk4⟩ := zTks_keep hV htd k26
      rw [← hv] at hI hD hk1 hk4
      have h66 := hI.2.2.2.1 6 (by decide) (by decide)
      have ek : k26 = x0.toNat := by omega
      subst ek
      refine z_aload_n C0 hl 0 rfl dX12_doPassTicks_41 ?_
      refine zg_9_0 C0 Wd zN398 zK398 zk_1612 dX12_doPassTicks_42 ?_
      refine z_bipush C0 dX12_doPassTicks_45 (by decide) ?_
      refine z_iald C0 Wd zN399 zK399 zL399 (by decide) (by decide) (by decide) dX12_doPassTicks_47 ?_
      obtain ⟨he7, hz5⟩ : ((zrow (zrow zM0 399 v26) 404 r26) 399 6) = (v26 6) ∧ zR (v26 6) := (fun q => ⟨q, q ▸ Wd.rm _ _⟩) ((congrFun (zrow_ne (by decide)) _).trans (congrFun (zrow_same _ _ _) _))
      refine z_top (congrArg zI he7) ?_
      clear he7
      refine z_iload_n C0 hl 2 rfl dX12_doPassTicks_48 ?_
      refine z_isub C0 dX12_doPassTicks_49 ?_
      exact z_iret C0 Wd hret hlk (by have q0 := hz4.1; have p0 := hz4.2; have q1 := hz5.1; have p1 := hz5.2; exact zR_mk (by omega) (by omega)) (by have e : zdPT x0 (zM0 399) = ((0, v26 6 - zM0 399 6, v26) : zO) := (by unfold zdPT; rw [if_neg (by omega), ← hv]); rw [e]; exact Or.inr ⟨_, rfl, rfl, rfl, rfl⟩) dX12_doPassTicks_50
    have lp26 : ∀ (d26 k26 : Nat) (hk26 : (k26 : Int) + d26 = x0) (v26 : Int → Int) (r26 : Int → Int) (hv : v26 = zTks k26 (zM0 399)) (H : Heap) (locs : List Loc) (ls : Array Slot) (Wd : zW g (zA 410 ad s.heap.size) s.heap 410 ad (zrow (zrow zM0 399 v26) 404 r26) zF0 H locs) (hl : lv_has ls 4 [(0, .ref (ad 398)), (1, .int (zI x0)), (2, .int (zI (zM0 399 6))), (3, .int (zI (k26 : Int)))]), W p l e (zrm 6 0 0) s m args below meth c H locs 0 0 (zMQ below g 410 ad (zPi (fun r M' F' => ((0 < (zdPT x0 (zM0 399)).1) ∧ 0 = r ∧ (zu zM0 398 8 (zdPT x0 (zM0 399)).1) = M' ∧ zF0 = F') ∨ (∃ w : Int → Int, ((zdPT x0 (zM0 399)).1 = 0) ∧ (zdPT x0 (zM0 399)).2.1 = r ∧ (zrow (zrow zM0 399 (zdPT x0 (zM0 399)).2.2) 404 w) = M' ∧ zF0 = F'))) args s 0 0) (F0 m 26 ls []) := by
      intro d26
      induction d26 with
      | zero =>
        intro k26 hk26 v26 r26 hv H locs ls Wd hl
        obtain ⟨hI, hD, hk1, hk4⟩ := zTks_keep hV htd k26
        rw [← hv] at hI hD hk1 hk4
        refine z_iload_n C0 hl 3 rfl dX12_doPassTicks_26 ?_
        refine z_iload_n C0 hl 1 rfl dX12_doPassTicks_27 ?_
        refine z_icmp_ge C0 (tgt := 41) (zR_mk (by omega) (by omega)) hx0 dX12_doPassTicks_28 (by decide) (fun c8 => ?_) (fun c8 => ?_)
        · skip
          first | exact aft26 k26 (by omega) v26 r26 hv (by first | assumption | omega) _ _ _ Wd (lv_sub hl [0, 1, 2, 3] rfl) | (exfalso; omega)
        · skip
          exfalso; omega
      | succ d26 ih26 =>
        intro k26 hk26 v26 r26 hv H locs ls Wd hl
        obtain ⟨hI, hD, hk1, hk4⟩ := zTks_keep hV htd k26
        rw [← hv] at hI hD hk1 hk4
        refine z_iload_n C0 hl 3 rfl dX12_doPassTicks_26 ?_
        refine z_iload_n C0 hl 1 rfl dX12_doPassTicks_27 ?_
        refine z_icmp_ge C0 (tgt := 41) (zR_mk (by omega) (by omega)) hx0 dX12_doPassTicks_28 (by decide) (fun c9 => ?_) (fun c9 => ?_)
        · skip
          first | exact aft26 k26 (by omega) v26 r26 hv (by first | assumption | omega) _ _ _ Wd (lv_sub hl [0, 1, 2, 3] rfl) | (exfalso; omega)
        · skip
          refine z_aload_n C0 hl 0 rfl dX12_doPassTicks_31 ?_
          refine z_invVv (As := []) (rest := []) C0 Wd (ct_X12_ticksOnce l g ad (zrow (zrow zM0 399 v26) 404 r26) zF0 (zt + 17 * (k26 : Int)) hI hD (by omega)) kv_X12_ticksOnce zN398 (zE_9 zK398) rfl zk_1920 rfl hl.1 rfl (Nat.le_of_ble_eq_true rfl) (by decide) (by decide) dX12_doPassTicks_32 (fun zMr10 zFr10 H locs hp Wd => ?_)
          rcases hp with ⟨r_r10, rfl, rfl⟩
          · skip
            replace Wd : zW g _ s.heap 410 ad (zrow (zrow (zrow (zrow zM0 399 v26) 404 r26) 399 (zTick v26)) 404 r_r10) _ H locs := Wd
            replace Wd := zW.mem Wd (show _ = (zrow (zrow zM0 399 (zTick v26)) 404 r_r10) from ((zrow_c 404 r_r10 (zrow_in (M := zM0) (i := 399) (j := 404) (v := v26) (r := r26) (by decide))).trans (zrow_twice (zrow zM0 399 (zTick v26)) 404 r26 r_r10)))
            refine z_iinc C0 hl 3 (t := (k26 : Int)) (u := ((k26 : Int) + 1)) rfl (by omega) [(3, .int (zI ((k26 : Int) + 1))), (0, .ref (ad 398)), (1, .int (zI x0)), (2, .int (zI (zM0 399 6)))] (by decide) rfl dX12_doPassTicks_35 (fun ls hl => ?_)
            refine z_goto C0 (tgt := 26) dX12_doPassTicks_38 (by decide) ?_
            exact ih26 (k26 + 1) (by omega) (zTick v26) r_r10 (by show _ = zTick (zTks k26 (zM0 399)); rw [← hv]) _ _ _ Wd (lv_sub hl [1, 2, 3, 0] rfl)
    exact lp26 (x0).toNat 0 (by omega) (zM0 399) (zM0 404) rfl _ _ _ (by rw [zrows_eta (by decide)]; exact Wd) (lv_sub hl [2, 3, 1, 0] rfl)
  · skip
    refine z_aload_n C0 hl 0 rfl dX12_doPassTicks_10 ?_
    refine z_iconst C0 dX12_doPassTicks_11 ?_
    refine z_invVi (As := [.int (zI 1)]) (rest := []) C0 Wd (ct_X12_fails l g ad zM0 zF0 1 (zR_mk (by decide) (by decide))) kv_X12_fails zN398 (zE_9 zK398) rfl zk_1687 rfl hl.1 rfl (Nat.le_of_ble_eq_true rfl) (by decide) (by decide) dX12_doPassTicks_12 (fun r12 zMr12 zFr12 H locs hrr12 hp Wd => ?_)
    obtain ⟨rfl, rfl, rfl⟩ := hp
    exact z_iret C0 Wd hret hlk (zR_mk (by decide) (by decide)) (by have e : zdPT x0 (zM0 399) = ((1, 0, zM0 399) : zO) := (by unfold zdPT; rw [if_pos (by omega)]); rw [e]; exact Or.inl ⟨(by show (0 : Int) < 1; decide), rfl, rfl, rfl⟩) dX12_doPassTicks_15
