/-! the model says a message -/
theorem zlast_at9 {P : Int → Prop} [DecidablePred P] : ∀ n : Nat, 0 ≤ zlast P n → P (zlast P n)
  | 0, h => absurd h (show ¬ (0 : Int) ≤ -1 by decide)
  | n + 1, h => by
    unfold zlast at h ⊢
    by_cases q : P (n : Int)
    · rw [if_pos q]
      exact q
    · rw [if_neg q] at h ⊢
      exact zlast_at9 n h
/-- the model's text of the message at p -/
def zwK (p x : Int) (r : Int → Int) (K : zMem) : zMem := zsR (r (96 + 47 * p + 5)).toNat (zsay (r (96 + 47 * p + 4)) (zsN 1 (r (96 + 47 * p + 3)) (zsay 61 (zsN 0 (r (96 + 47 * p + 2)) (zsay 62 (zsN 0 (r (96 + 47 * p + 1)) (zsay 58 (zsN 3 x (zu K 398 10 0)))))))))

theorem kv_X12_writeMessage : zKV yX12_writeMessage cX12_writeMessage 4 (some .int) "DrumWarrenModel" 1 := ⟨zk_1987, zk_1985, zk_1986, zk_80, by decide, by decide, by decide +kernel⟩
set_option maxHeartbeats 4000000 in
set_option maxRecDepth 100000 in
theorem ct_X12_writeMessage (l : Launch) (g : zG) (ad : Int → Nat) (zM0 zF0 : zMem) (zt : Int) (x0 : Int) (hx0 : zR x0) (hI : zIV zt (zM0 399)) (hD : ∀ q, 0 ≤ q → q < zM0 399 2 → zM0 399 (96 + 47 * q + 0) < 10000) : zMt l yX12_writeMessage cX12_writeMessage 4 (some .int) 6 0 0 g 410 ad [.ref (ad 398), .int (zI x0)] zM0 zF0 (zPi (fun r M' F' => ((¬ 0 ≤ (zlast (fun q => zM0 399 (96 + 47 * q + 0) = x0) (zM0 399 2).toNat)) ∧ 0 = r ∧ (zu zM0 398 8 1) = M' ∧ zF0 = F') ∨ ((0 ≤ (zlast (fun q => zM0 399 (96 + 47 * q + 0) = x0) (zM0 399 2).toNat)) ∧ (zwK (zlast (fun q => zM0 399 (96 + 47 * q + 0) = x0) (zM0 399 2).toNat) x0 (zM0 399) (zu zM0 398 8 0) 398 10) = r ∧ (zwK (zlast (fun q => zM0 399 (96 + 47 * q + 0) = x0) (zM0 399 2).toNat) x0 (zM0 399) (zu zM0 398 8 0)) = M' ∧ zF0 = F'))) := by
  refine zMt.of "DrumWarrenModel" rfl (by decide +kernel) (Nat.le_of_ble_eq_true rfl) (fun {p e s m args below meth c ls} C0 Wd hl hret hlk hin => ?_)
  have hl : lv_has ls 4 [(0, .ref (ad 398)), (1, .int (zI x0))] := hl
  have h2b := hI.2.2.1
  refine z_aload_n C0 hl 0 rfl dX12_writeMessage_0 ?_
  refine z_iload_n C0 hl 1 rfl dX12_writeMessage_1 ?_
  refine z_invVi (As := [.int (zI x0)]) (rest := []) C0 Wd (ct_X12_placeOf l g ad zM0 zF0 x0 hx0 (by omega)) kv_X12_placeOf zN398 (zE_9 zK398) rfl zk_1865 rfl hl.1 rfl (Nat.le_of_ble_eq_true rfl) (by decide) (by decide) dX12_writeMessage_2 (fun r1 zMr1 zFr1 H locs hrr1 hp Wd => ?_)
  obtain ⟨rfl, rfl, rfl⟩ := hp
  have hpl : -1 ≤ (zlast (fun q => zM0 399 (96 + 47 * q + 0) = x0) (zM0 399 2).toNat) ∧ (zlast (fun q => zM0 399 (96 + 47 * q + 0) = x0) (zM0 399 2).toNat) < zM0 399 2 := by have := zlast_bd (P := fun q => zM0 399 (96 + 47 * q + 0) = x0) (zM0 399 2).toNat; omega
  refine z_istore_n C0 hl [(2, .int (zI (zlast (fun q => zM0 399 (96 + 47 * q + 0) = x0) (zM0 399 2).toNat))), (0, .ref (ad 398)), (1, .int (zI x0))] (by decide) rfl dX12_writeMessage_5 (fun ls hl => ?_)
  refine z_aload_n C0 hl 1 rfl dX12_writeMessage_6 ?_
  refine z_iload_n C0 hl 0 rfl dX12_writeMessage_7 ?_
  refine z_if_lt C0 (tgt := 15) hrr1 dX12_writeMessage_8 (by decide) (fun c3 => ?_) (fun c3 => ?_)
  · skip
    refine z_iconst C0 dX12_writeMessage_15 ?_
    refine z_invVi (As := [.int (zI 0)]) (rest := []) C0 Wd (ct_X12_isThere l g ad zM0 zF0 False) kv_X12_isThere zN398 (zE_9 zK398) rfl zk_1754 rfl hl.1 rfl (Nat.le_of_ble_eq_true rfl) (by decide) (by decide) dX12_writeMessage_16 (fun r4 zMr4 zFr4 H locs hrr4 hp Wd => ?_)
    obtain ⟨rfl, rfl, rfl⟩ := hp
    replace Wd : zW g _ s.heap 410 ad (zu zM0 398 8 1) _ H locs := Wd
    refine z_top (show zI (zb (False)) = zI 0 from rfl) ?_
    replace hrr4 : zR 0 := hrr4
    refine z_if_ne C0 (tgt := 24) (zR_mk (by decide) (by decide)) dX12_writeMessage_19 (by decide) (fun h => absurd h (by decide)) (fun _ => ?_)
    refine z_iconst C0 dX12_writeMessage_22 ?_
    exact z_iret C0 Wd hret hlk (zR_mk (by decide) (by decide)) (Or.inl ⟨by omega, rfl, rfl, rfl⟩) dX12_writeMessage_23
  · skip
    refine z_iconst C0 dX12_writeMessage_11 ?_
    refine z_goto C0 (tgt := 16) dX12_writeMessage_12 (by decide) ?_
    refine z_invVi (As := [.int (zI 1)]) (rest := []) C0 Wd (ct_X12_isThere l g ad zM0 zF0 True) kv_X12_isThere zN398 (zE_9 zK398) rfl zk_1754 rfl hl.1 rfl (Nat.le_of_ble_eq_true rfl) (by decide) (by decide) dX12_writeMessage_16 (fun r7 zMr7 zFr7 H locs hrr7 hp Wd => ?_)
    obtain ⟨rfl, rfl, rfl⟩ := hp
    replace Wd : zW g _ s.heap 410 ad (zu zM0 398 8 0) _ H locs := Wd
    refine z_top (show zI (zb (True)) = zI 1 from rfl) ?_
    replace hrr7 : zR 1 := hrr7
    refine z_if_ne C0 (tgt := 24) (zR_mk (by decide) (by decide)) dX12_writeMessage_19 (by decide) (fun _ => ?_) (fun h => absurd h (by decide))
    have h1b := hI.2.1
    obtain ⟨hm0, hm1, hm2, hm3, hm4, hm5, hm6⟩ := hI.2.2.2.2.2.2.1 (zlast (fun q => zM0 399 (96 + 47 * q + 0) = x0) (zM0 399 2).toNat) (by omega) (by omega)
    have hmi := zlast_at9 (P := fun q => zM0 399 (96 + 47 * q + 0) = x0) (zM0 399 2).toNat (by omega)
    have hmd := hD (zlast (fun q => zM0 399 (96 + 47 * q + 0) = x0) (zM0 399 2).toNat) (by omega) (by omega)
    have hmx : 0 ≤ x0 ∧ x0 < 10000 := by have hmi2 : zM0 399 (96 + 47 * (zlast (fun q => zM0 399 (96 + 47 * q + 0) = x0) (zM0 399 2).toNat) + 0) = x0 := hmi; omega
    refine z_aload_n C0 hl 1 rfl dX12_writeMessage_24 ?_
    refine z_iconst C0 dX12_writeMessage_25 ?_
    refine zp_9_10 C0 Wd zN398 zK398 (zR_mk (by decide) (by decide)) zk_1622 dX12_writeMessage_26 (fun H locs Wd => ?_)
    have hk0 : (zu (zu zM0 398 8 0) 398 10 0) 398 10 = 0 := zu_same _ _ _ _
    refine z_aload_n C0 hl 1 rfl dX12_writeMessage_29 ?_
    refine z_iload_n C0 hl 2 rfl dX12_writeMessage_30 ?_
    refine z_invVv (As := [.int (zI x0)]) (rest := []) C0 Wd (ct_X12_saysNumber_3 l g ad (zu (zu zM0 398 8 0) 398 10 0) zF0 x0 hx0 (by omega) (by show 0 ≤ 0 ∧ 0 < 27; first | omega | assumption)) kv_X12_saysNumber zN398 (zE_9 zK398) rfl zk_1988 rfl hl.1 rfl (Nat.le_of_ble_eq_true rfl) (by decide) (by decide) dX12_writeMessage_31 (fun zMr10 zFr10 H locs hp Wd => ?_)
    obtain ⟨rfl, rfl⟩ := hp
    have hk12 := zsN_n 3 x0 (zu (zu zM0 398 8 0) 398 10 0)
    refine z_aload_n C0 hl 1 rfl dX12_writeMessage_34 ?_
    refine z_bipush C0 dX12_writeMessage_35 (by decide) ?_
    refine z_invVv (As := [.int (zI 58)]) (rest := []) C0 Wd (ct_X12_says_s l g ad (zsN 3 x0 (zu (zu zM0 398 8 0) 398 10 0)) zF0 58 (zR_mk (by decide) (by decide)) (by omega) (by omega)) kv_X12_says zN398 (zE_9 zK398) rfl zk_1992 rfl hl.1 rfl (Nat.le_of_ble_eq_true rfl) (by decide) (by decide) dX12_writeMessage_37 (fun zMr13 zFr13 H locs hp Wd => ?_)
    obtain ⟨rfl, rfl⟩ := hp
    have hk15 : (zsay 58 (zsN 3 x0 (zu (zu zM0 398 8 0) 398 10 0))) 398 10 = (zsN 3 x0 (zu (zu zM0 398 8 0) 398 10 0)) 398 10 + 1 := zsay_n
    refine z_aload_n C0 hl 1 rfl dX12_writeMessage_40 ?_
    refine z_aload_n C0 hl 1 rfl dX12_writeMessage_41 ?_
    refine z_iload_n C0 hl 0 rfl dX12_writeMessage_42 ?_
    refine z_iconst C0 dX12_writeMessage_43 ?_
    refine z_invVi (As := [.int (zI (zlast (fun q => zM0 399 (96 + 47 * q + 0) = x0) (zM0 399 2).toNat)), .int (zI 1)]) (rest := [.ref (ad 398)]) C0 Wd (ct_X12_of l g ad (zsay 58 (zsN 3 x0 (zu (zu zM0 398 8 0) 398 10 0))) zF0 (zlast (fun q => zM0 399 (96 + 47 * q + 0) = x0) (zM0 399 2).toNat) hrr1 1 (zR_mk (by decide) (by decide)) (by omega)) kv_X12_of zN398 (zE_9 zK398) rfl zk_1801 rfl hl.1 rfl (Nat.le_of_ble_eq_true rfl) (by decide) (by decide) dX12_writeMessage_44 (fun r16 zMr16 zFr16 H locs hrr16 hp Wd => ?_)
    obtain ⟨rfl, rfl, rfl⟩ := hp
    obtain ⟨he19, hz18⟩ : ((zsay 58 (zsN 3 x0 (zu (zu zM0 398 8 0) 398 10 0))) 399 (96 + 47 * (zlast (fun q => zM0 399 (96 + 47 * q + 0) = x0) (zM0 399 2).toNat) + 1)) = (zM0 399 (96 + 47 * (zlast (fun q => zM0 399 (96 + 47 * q + 0) = x0) (zM0 399 2).toNat) + 1)) ∧ zR (zM0 399 (96 + 47 * (zlast (fun q => zM0 399 (96 + 47 * q + 0) = x0) (zM0 399 2).toNat) + 1)) := (fun q => ⟨q, q ▸ hrr16⟩) ((zsay_row (by omega) (by omega) _).trans ((zsN_row (by omega) (by omega) _).trans ((zu_ne (by omega)).trans (zu_ne (by omega)))))
    refine z_top (congrArg zI he19) ?_
    clear he19
    refine z_invVv (As := [.int (zI (zM0 399 (96 + 47 * (zlast (fun q => zM0 399 (96 + 47 * q + 0) = x0) (zM0 399 2).toNat) + 1)))]) (rest := []) C0 Wd (ct_X12_saysNumber_0 l g ad (zsay 58 (zsN 3 x0 (zu (zu zM0 398 8 0) 398 10 0))) zF0 (zM0 399 (96 + 47 * (zlast (fun q => zM0 399 (96 + 47 * q + 0) = x0) (zM0 399 2).toNat) + 1)) hz18 (by omega) (by omega)) kv_X12_saysNumber zN398 (zE_9 zK398) rfl zk_1988 rfl hl.1 rfl (Nat.le_of_ble_eq_true rfl) (by decide) (by decide) dX12_writeMessage_47 (fun zMr20 zFr20 H locs hp Wd => ?_)
    obtain ⟨rfl, rfl⟩ := hp
    have hk22 := zsN_n 0 (zM0 399 (96 + 47 * (zlast (fun q => zM0 399 (96 + 47 * q + 0) = x0) (zM0 399 2).toNat) + 1)) (zsay 58 (zsN 3 x0 (zu (zu zM0 398 8 0) 398 10 0)))
    refine z_aload_n C0 hl 1 rfl dX12_writeMessage_50 ?_
    refine z_bipush C0 dX12_writeMessage_51 (by decide) ?_
    refine z_invVv (As := [.int (zI 62)]) (rest := []) C0 Wd (ct_X12_says_s l g ad (zsN 0 (zM0 399 (96 + 47 * (zlast (fun q => zM0 399 (96 + 47 * q + 0) = x0) (zM0 399 2).toNat) + 1)) (zsay 58 (zsN 3 x0 (zu (zu zM0 398 8 0) 398 10 0)))) zF0 62 (zR_mk (by decide) (by decide)) (by omega) (by omega)) kv_X12_says zN398 (zE_9 zK398) rfl zk_1992 rfl hl.1 rfl (Nat.le_of_ble_eq_true rfl) (by decide) (by decide) dX12_writeMessage_53 (fun zMr23 zFr23 H locs hp Wd => ?_)
    obtain ⟨rfl, rfl⟩ := hp
    have hk25 : (zsay 62 (zsN 0 (zM0 399 (96 + 47 * (zlast (fun q => zM0 399 (96 + 47 * q + 0) = x0) (zM0 399 2).toNat) + 1)) (zsay 58 (zsN 3 x0 (zu (zu zM0 398 8 0) 398 10 0))))) 398 10 = (zsN 0 (zM0 399 (96 + 47 * (zlast (fun q => zM0 399 (96 + 47 * q + 0) = x0) (zM0 399 2).toNat) + 1)) (zsay 58 (zsN 3 x0 (zu (zu zM0 398 8 0) 398 10 0)))) 398 10 + 1 := zsay_n
    refine z_aload_n C0 hl 1 rfl dX12_writeMessage_56 ?_
    refine z_aload_n C0 hl 1 rfl dX12_writeMessage_57 ?_
    refine z_iload_n C0 hl 0 rfl dX12_writeMessage_58 ?_
    refine z_iconst C0 dX12_writeMessage_59 ?_
    refine z_invVi (As := [.int (zI (zlast (fun q => zM0 399 (96 + 47 * q + 0) = x0) (zM0 399 2).toNat)), .int (zI 2)]) (rest := [.ref (ad 398)]) C0 Wd (ct_X12_of l g ad (zsay 62 (zsN 0 (zM0 399 (96 + 47 * (zlast (fun q => zM0 399 (96 + 47 * q + 0) = x0) (zM0 399 2).toNat) + 1)) (zsay 58 (zsN 3 x0 (zu (zu zM0 398 8 0) 398 10 0))))) zF0 (zlast (fun q => zM0 399 (96 + 47 * q + 0) = x0) (zM0 399 2).toNat) hrr1 2 (zR_mk (by decide) (by decide)) (by omega)) kv_X12_of zN398 (zE_9 zK398) rfl zk_1801 rfl hl.1 rfl (Nat.le_of_ble_eq_true rfl) (by decide) (by decide) dX12_writeMessage_60 (fun r26 zMr26 zFr26 H locs hrr26 hp Wd => ?_)
    obtain ⟨rfl, rfl, rfl⟩ := hp
    obtain ⟨he29, hz28⟩ : ((zsay 62 (zsN 0 (zM0 399 (96 + 47 * (zlast (fun q => zM0 399 (96 + 47 * q + 0) = x0) (zM0 399 2).toNat) + 1)) (zsay 58 (zsN 3 x0 (zu (zu zM0 398 8 0) 398 10 0))))) 399 (96 + 47 * (zlast (fun q => zM0 399 (96 + 47 * q + 0) = x0) (zM0 399 2).toNat) + 2)) = (zM0 399 (96 + 47 * (zlast (fun q => zM0 399 (96 + 47 * q + 0) = x0) (zM0 399 2).toNat) + 2)) ∧ zR (zM0 399 (96 + 47 * (zlast (fun q => zM0 399 (96 + 47 * q + 0) = x0) (zM0 399 2).toNat) + 2)) := (fun q => ⟨q, q ▸ hrr26⟩) ((zsay_row (by omega) (by omega) _).trans ((zsN_row (by omega) (by omega) _).trans ((zsay_row (by omega) (by omega) _).trans ((zsN_row (by omega) (by omega) _).trans ((zu_ne (by omega)).trans (zu_ne (by omega)))))))
    refine z_top (congrArg zI he29) ?_
    clear he29
    refine z_invVv (As := [.int (zI (zM0 399 (96 + 47 * (zlast (fun q => zM0 399 (96 + 47 * q + 0) = x0) (zM0 399 2).toNat) + 2)))]) (rest := []) C0 Wd (ct_X12_saysNumber_0 l g ad (zsay 62 (zsN 0 (zM0 399 (96 + 47 * (zlast (fun q => zM0 399 (96 + 47 * q + 0) = x0) (zM0 399 2).toNat) + 1)) (zsay 58 (zsN 3 x0 (zu (zu zM0 398 8 0) 398 10 0))))) zF0 (zM0 399 (96 + 47 * (zlast (fun q => zM0 399 (96 + 47 * q + 0) = x0) (zM0 399 2).toNat) + 2)) hz28 (by omega) (by omega)) kv_X12_saysNumber zN398 (zE_9 zK398) rfl zk_1988 rfl hl.1 rfl (Nat.le_of_ble_eq_true rfl) (by decide) (by decide) dX12_writeMessage_63 (fun zMr30 zFr30 H locs hp Wd => ?_)
    obtain ⟨rfl, rfl⟩ := hp
    have hk32 := zsN_n 0 (zM0 399 (96 + 47 * (zlast (fun q => zM0 399 (96 + 47 * q + 0) = x0) (zM0 399 2).toNat) + 2)) (zsay 62 (zsN 0 (zM0 399 (96 + 47 * (zlast (fun q => zM0 399 (96 + 47 * q + 0) = x0) (zM0 399 2).toNat) + 1)) (zsay 58 (zsN 3 x0 (zu (zu zM0 398 8 0) 398 10 0)))))
    refine z_aload_n C0 hl 1 rfl dX12_writeMessage_66 ?_
    refine z_bipush C0 dX12_writeMessage_67 (by decide) ?_
    refine z_invVv (As := [.int (zI 61)]) (rest := []) C0 Wd (ct_X12_says_s l g ad (zsN 0 (zM0 399 (96 + 47 * (zlast (fun q => zM0 399 (96 + 47 * q + 0) = x0) (zM0 399 2).toNat) + 2)) (zsay 62 (zsN 0 (zM0 399 (96 + 47 * (zlast (fun q => zM0 399 (96 + 47 * q + 0) = x0) (zM0 399 2).toNat) + 1)) (zsay 58 (zsN 3 x0 (zu (zu zM0 398 8 0) 398 10 0)))))) zF0 61 (zR_mk (by decide) (by decide)) (by omega) (by omega)) kv_X12_says zN398 (zE_9 zK398) rfl zk_1992 rfl hl.1 rfl (Nat.le_of_ble_eq_true rfl) (by decide) (by decide) dX12_writeMessage_69 (fun zMr33 zFr33 H locs hp Wd => ?_)
    obtain ⟨rfl, rfl⟩ := hp
    have hk35 : (zsay 61 (zsN 0 (zM0 399 (96 + 47 * (zlast (fun q => zM0 399 (96 + 47 * q + 0) = x0) (zM0 399 2).toNat) + 2)) (zsay 62 (zsN 0 (zM0 399 (96 + 47 * (zlast (fun q => zM0 399 (96 + 47 * q + 0) = x0) (zM0 399 2).toNat) + 1)) (zsay 58 (zsN 3 x0 (zu (zu zM0 398 8 0) 398 10 0))))))) 398 10 = (zsN 0 (zM0 399 (96 + 47 * (zlast (fun q => zM0 399 (96 + 47 * q + 0) = x0) (zM0 399 2).toNat) + 2)) (zsay 62 (zsN 0 (zM0 399 (96 + 47 * (zlast (fun q => zM0 399 (96 + 47 * q + 0) = x0) (zM0 399 2).toNat) + 1)) (zsay 58 (zsN 3 x0 (zu (zu zM0 398 8 0) 398 10 0)))))) 398 10 + 1 := zsay_n
    refine z_aload_n C0 hl 1 rfl dX12_writeMessage_72 ?_
    refine z_aload_n C0 hl 1 rfl dX12_writeMessage_73 ?_
    refine z_iload_n C0 hl 0 rfl dX12_writeMessage_74 ?_
    refine z_iconst C0 dX12_writeMessage_75 ?_
    refine z_invVi (As := [.int (zI (zlast (fun q => zM0 399 (96 + 47 * q + 0) = x0) (zM0 399 2).toNat)), .int (zI 3)]) (rest := [.ref (ad 398)]) C0 Wd (ct_X12_of l g ad (zsay 61 (zsN 0 (zM0 399 (96 + 47 * (zlast (fun q => zM0 399 (96 + 47 * q + 0) = x0) (zM0 399 2).toNat) + 2)) (zsay 62 (zsN 0 (zM0 399 (96 + 47 * (zlast (fun q => zM0 399 (96 + 47 * q + 0) = x0) (zM0 399 2).toNat) + 1)) (zsay 58 (zsN 3 x0 (zu (zu zM0 398 8 0) 398 10 0))))))) zF0 (zlast (fun q => zM0 399 (96 + 47 * q + 0) = x0) (zM0 399 2).toNat) hrr1 3 (zR_mk (by decide) (by decide)) (by omega)) kv_X12_of zN398 (zE_9 zK398) rfl zk_1801 rfl hl.1 rfl (Nat.le_of_ble_eq_true rfl) (by decide) (by decide) dX12_writeMessage_76 (fun r36 zMr36 zFr36 H locs hrr36 hp Wd => ?_)
    obtain ⟨rfl, rfl, rfl⟩ := hp
    obtain ⟨he39, hz38⟩ : ((zsay 61 (zsN 0 (zM0 399 (96 + 47 * (zlast (fun q => zM0 399 (96 + 47 * q + 0) = x0) (zM0 399 2).toNat) + 2)) (zsay 62 (zsN 0 (zM0 399 (96 + 47 * (zlast (fun q => zM0 399 (96 + 47 * q + 0) = x0) (zM0 399 2).toNat) + 1)) (zsay 58 (zsN 3 x0 (zu (zu zM0 398 8 0) 398 10 0))))))) 399 (96 + 47 * (zlast (fun q => zM0 399 (96 + 47 * q + 0) = x0) (zM0 399 2).toNat) + 3)) = (zM0 399 (96 + 47 * (zlast (fun q => zM0 399 (96 + 47 * q + 0) = x0) (zM0 399 2).toNat) + 3)) ∧ zR (zM0 399 (96 + 47 * (zlast (fun q => zM0 399 (96 + 47 * q + 0) = x0) (zM0 399 2).toNat) + 3)) := (fun q => ⟨q, q ▸ hrr36⟩) ((zsay_row (by omega) (by omega) _).trans ((zsN_row (by omega) (by omega) _).trans ((zsay_row (by omega) (by omega) _).trans ((zsN_row (by omega) (by omega) _).trans ((zsay_row (by omega) (by omega) _).trans ((zsN_row (by omega) (by omega) _).trans ((zu_ne (by omega)).trans (zu_ne (by omega)))))))))
    refine z_top (congrArg zI he39) ?_
    clear he39
    refine z_invVv (As := [.int (zI (zM0 399 (96 + 47 * (zlast (fun q => zM0 399 (96 + 47 * q + 0) = x0) (zM0 399 2).toNat) + 3)))]) (rest := []) C0 Wd (ct_X12_saysNumber_1 l g ad (zsay 61 (zsN 0 (zM0 399 (96 + 47 * (zlast (fun q => zM0 399 (96 + 47 * q + 0) = x0) (zM0 399 2).toNat) + 2)) (zsay 62 (zsN 0 (zM0 399 (96 + 47 * (zlast (fun q => zM0 399 (96 + 47 * q + 0) = x0) (zM0 399 2).toNat) + 1)) (zsay 58 (zsN 3 x0 (zu (zu zM0 398 8 0) 398 10 0))))))) zF0 (zM0 399 (96 + 47 * (zlast (fun q => zM0 399 (96 + 47 * q + 0) = x0) (zM0 399 2).toNat) + 3)) hz38 (by omega) (by omega)) kv_X12_saysNumber zN398 (zE_9 zK398) rfl zk_1988 rfl hl.1 rfl (Nat.le_of_ble_eq_true rfl) (by decide) (by decide) dX12_writeMessage_79 (fun zMr40 zFr40 H locs hp Wd => ?_)
    obtain ⟨rfl, rfl⟩ := hp
    have hk42 := zsN_n 1 (zM0 399 (96 + 47 * (zlast (fun q => zM0 399 (96 + 47 * q + 0) = x0) (zM0 399 2).toNat) + 3)) (zsay 61 (zsN 0 (zM0 399 (96 + 47 * (zlast (fun q => zM0 399 (96 + 47 * q + 0) = x0) (zM0 399 2).toNat) + 2)) (zsay 62 (zsN 0 (zM0 399 (96 + 47 * (zlast (fun q => zM0 399 (96 + 47 * q + 0) = x0) (zM0 399 2).toNat) + 1)) (zsay 58 (zsN 3 x0 (zu (zu zM0 398 8 0) 398 10 0)))))))
    refine z_aload_n C0 hl 1 rfl dX12_writeMessage_82 ?_
    refine z_aload_n C0 hl 1 rfl dX12_writeMessage_83 ?_
    refine z_iload_n C0 hl 0 rfl dX12_writeMessage_84 ?_
    refine z_iconst C0 dX12_writeMessage_85 ?_
    refine z_invVi (As := [.int (zI (zlast (fun q => zM0 399 (96 + 47 * q + 0) = x0) (zM0 399 2).toNat)), .int (zI 4)]) (rest := [.ref (ad 398)]) C0 Wd (ct_X12_of l g ad (zsN 1 (zM0 399 (96 + 47 * (zlast (fun q => zM0 399 (96 + 47 * q + 0) = x0) (zM0 399 2).toNat) + 3)) (zsay 61 (zsN 0 (zM0 399 (96 + 47 * (zlast (fun q => zM0 399 (96 + 47 * q + 0) = x0) (zM0 399 2).toNat) + 2)) (zsay 62 (zsN 0 (zM0 399 (96 + 47 * (zlast (fun q => zM0 399 (96 + 47 * q + 0) = x0) (zM0 399 2).toNat) + 1)) (zsay 58 (zsN 3 x0 (zu (zu zM0 398 8 0) 398 10 0)))))))) zF0 (zlast (fun q => zM0 399 (96 + 47 * q + 0) = x0) (zM0 399 2).toNat) hrr1 4 (zR_mk (by decide) (by decide)) (by omega)) kv_X12_of zN398 (zE_9 zK398) rfl zk_1801 rfl hl.1 rfl (Nat.le_of_ble_eq_true rfl) (by decide) (by decide) dX12_writeMessage_86 (fun r43 zMr43 zFr43 H locs hrr43 hp Wd => ?_)
    obtain ⟨rfl, rfl, rfl⟩ := hp
    obtain ⟨he46, hz45⟩ : ((zsN 1 (zM0 399 (96 + 47 * (zlast (fun q => zM0 399 (96 + 47 * q + 0) = x0) (zM0 399 2).toNat) + 3)) (zsay 61 (zsN 0 (zM0 399 (96 + 47 * (zlast (fun q => zM0 399 (96 + 47 * q + 0) = x0) (zM0 399 2).toNat) + 2)) (zsay 62 (zsN 0 (zM0 399 (96 + 47 * (zlast (fun q => zM0 399 (96 + 47 * q + 0) = x0) (zM0 399 2).toNat) + 1)) (zsay 58 (zsN 3 x0 (zu (zu zM0 398 8 0) 398 10 0)))))))) 399 (96 + 47 * (zlast (fun q => zM0 399 (96 + 47 * q + 0) = x0) (zM0 399 2).toNat) + 4)) = (zM0 399 (96 + 47 * (zlast (fun q => zM0 399 (96 + 47 * q + 0) = x0) (zM0 399 2).toNat) + 4)) ∧ zR (zM0 399 (96 + 47 * (zlast (fun q => zM0 399 (96 + 47 * q + 0) = x0) (zM0 399 2).toNat) + 4)) := (fun q => ⟨q, q ▸ hrr43⟩) ((zsN_row (by omega) (by omega) _).trans ((zsay_row (by omega) (by omega) _).trans ((zsN_row (by omega) (by omega) _).trans ((zsay_row (by omega) (by omega) _).trans ((zsN_row (by omega) (by omega) _).trans ((zsay_row (by omega) (by omega) _).trans ((zsN_row (by omega) (by omega) _).trans ((zu_ne (by omega)).trans (zu_ne (by omega))))))))))
    refine z_top (congrArg zI he46) ?_
    clear he46
    refine z_invVv (As := [.int (zI (zM0 399 (96 + 47 * (zlast (fun q => zM0 399 (96 + 47 * q + 0) = x0) (zM0 399 2).toNat) + 4)))]) (rest := []) C0 Wd (ct_X12_says_s l g ad (zsN 1 (zM0 399 (96 + 47 * (zlast (fun q => zM0 399 (96 + 47 * q + 0) = x0) (zM0 399 2).toNat) + 3)) (zsay 61 (zsN 0 (zM0 399 (96 + 47 * (zlast (fun q => zM0 399 (96 + 47 * q + 0) = x0) (zM0 399 2).toNat) + 2)) (zsay 62 (zsN 0 (zM0 399 (96 + 47 * (zlast (fun q => zM0 399 (96 + 47 * q + 0) = x0) (zM0 399 2).toNat) + 1)) (zsay 58 (zsN 3 x0 (zu (zu zM0 398 8 0) 398 10 0)))))))) zF0 (zM0 399 (96 + 47 * (zlast (fun q => zM0 399 (96 + 47 * q + 0) = x0) (zM0 399 2).toNat) + 4)) hz45 (by omega) (by omega)) kv_X12_says zN398 (zE_9 zK398) rfl zk_1992 rfl hl.1 rfl (Nat.le_of_ble_eq_true rfl) (by decide) (by decide) dX12_writeMessage_89 (fun zMr47 zFr47 H locs hp Wd => ?_)
    obtain ⟨rfl, rfl⟩ := hp
    have hk49 : (zsay (zM0 399 (96 + 47 * (zlast (fun q => zM0 399 (96 + 47 * q + 0) = x0) (zM0 399 2).toNat) + 4)) (zsN 1 (zM0 399 (96 + 47 * (zlast (fun q => zM0 399 (96 + 47 * q + 0) = x0) (zM0 399 2).toNat) + 3)) (zsay 61 (zsN 0 (zM0 399 (96 + 47 * (zlast (fun q => zM0 399 (96 + 47 * q + 0) = x0) (zM0 399 2).toNat) + 2)) (zsay 62 (zsN 0 (zM0 399 (96 + 47 * (zlast (fun q => zM0 399 (96 + 47 * q + 0) = x0) (zM0 399 2).toNat) + 1)) (zsay 58 (zsN 3 x0 (zu (zu zM0 398 8 0) 398 10 0))))))))) 398 10 = (zsN 1 (zM0 399 (96 + 47 * (zlast (fun q => zM0 399 (96 + 47 * q + 0) = x0) (zM0 399 2).toNat) + 3)) (zsay 61 (zsN 0 (zM0 399 (96 + 47 * (zlast (fun q => zM0 399 (96 + 47 * q + 0) = x0) (zM0 399 2).toNat) + 2)) (zsay 62 (zsN 0 (zM0 399 (96 + 47 * (zlast (fun q => zM0 399 (96 + 47 * q + 0) = x0) (zM0 399 2).toNat) + 1)) (zsay 58 (zsN 3 x0 (zu (zu zM0 398 8 0) 398 10 0)))))))) 398 10 + 1 := zsay_n
    refine z_iconst C0 dX12_writeMessage_92 ?_
    refine z_istore_n C0 hl [(3, .int (zI 0)), (2, .int (zI (zlast (fun q => zM0 399 (96 + 47 * q + 0) = x0) (zM0 399 2).toNat))), (0, .ref (ad 398)), (1, .int (zI x0))] (by decide) rfl dX12_writeMessage_93 (fun ls hl => ?_)
    have aft94 : ∀ (k94 : Nat) (hk94 : (k94 : Int) ≤ (zM0 399 (96 + 47 * (zlast (fun q => zM0 399 (96 + 47 * q + 0) = x0) (zM0 399 2).toNat) + 5))) (hx94 : (k94 : Int) = (zM0 399 (96 + 47 * (zlast (fun q => zM0 399 (96 + 47 * q + 0) = x0) (zM0 399 2).toNat) + 5))) (H : Heap) (locs : List Loc) (ls : Array Slot) (Wd : zW g (zA 410 ad s.heap.size) s.heap 410 ad (zsR k94 (zsay (zM0 399 (96 + 47 * (zlast (fun q => zM0 399 (96 + 47 * q + 0) = x0) (zM0 399 2).toNat) + 4)) (zsN 1 (zM0 399 (96 + 47 * (zlast (fun q => zM0 399 (96 + 47 * q + 0) = x0) (zM0 399 2).toNat) + 3)) (zsay 61 (zsN 0 (zM0 399 (96 + 47 * (zlast (fun q => zM0 399 (96 + 47 * q + 0) = x0) (zM0 399 2).toNat) + 2)) (zsay 62 (zsN 0 (zM0 399 (96 + 47 * (zlast (fun q => zM0 399 (96 + 47 * q + 0) = x0) (zM0 399 2).toNat) + 1)) (zsay 58 (zsN 3 x0 (zu (zu zM0 398 8 0) 398 10 0)))))))))) zF0 H locs) (hl : lv_has ls 4 [(0, .ref (ad 398)), (1, .int (zI x0)), (2, .int (zI (zlast (fun q => zM0 399 (96 + 47 * q + 0) = x0) (zM0 399 2).toNat))), (3, .int (zI (k94 : Int)))]), W p l e (zrm 6 0 0) s m args below meth c H locs 0 0 (zMQ below g 410 ad (zPi (fun r M' F' => ((¬ 0 ≤ (zlast (fun q => zM0 399 (96 + 47 * q + 0) = x0) (zM0 399 2).toNat)) ∧ 0 = r ∧ (zu zM0 398 8 1) = M' ∧ zF0 = F') ∨ ((0 ≤ (zlast (fun q => zM0 399 (96 + 47 * q + 0) = x0) (zM0 399 2).toNat)) ∧ (zwK (zlast (fun q => zM0 399 (96 + 47 * q + 0) = x0) (zM0 399 2).toNat) x0 (zM0 399) (zu zM0 398 8 0) 398 10) = r ∧ (zwK (zlast (fun q => zM0 399 (96 + 47 * q + 0) = x0) (zM0 399 2).toNat) x0 (zM0 399) (zu zM0 398 8 0)) = M' ∧ zF0 = F'))) args s 0 0) (F0 m 116 ls []) := by
      intro k94 hk94  hx94 H locs ls Wd hl
      replace hl : lv_has ls 4 [(0, .ref (ad 398)), (1, .int (zI x0)), (2, .int (zI (zlast (fun q => zM0 399 (96 + 47 * q + 0) = x0) (zM0 399 2).toNat)))] := lv_sub hl [0, 1, 2] rfl
      have hk9 : (zM0 399 (96 + 47 * (zlast (fun q => zM0 399 (96 + 47 * q + 0) = x0) (zM0 399 2).toNat) + 5)).toNat = k94 := by omega
      have hw9 : zwK (zlast (fun q => zM0 399 (96 + 47 * q + 0) = x0) (zM0 399 2).toNat) x0 (zM0 399) (zu zM0 398 8 0) = (zsR k94 (zsay (zM0 399 (96 + 47 * (zlast (fun q => zM0 399 (96 + 47 * q + 0) = x0) (zM0 399 2).toNat) + 4)) (zsN 1 (zM0 399 (96 + 47 * (zlast (fun q => zM0 399 (96 + 47 * q + 0) = x0) (zM0 399 2).toNat) + 3)) (zsay 61 (zsN 0 (zM0 399 (96 + 47 * (zlast (fun q => zM0 399 (96 + 47 * q + 0) = x0) (zM0 399 2).toNat) + 2)) (zsay 62 (zsN 0 (zM0 399 (96 + 47 * (zlast (fun q => zM0 399 (96 + 47 * q + 0) = x0) (zM0 399 2).toNat) + 1)) (zsay 58 (zsN 3 x0 (zu (zu zM0 398 8 0) 398 10 0)))))))))) := by show zsR (zM0 399 (96 + 47 * (zlast (fun q => zM0 399 (96 + 47 * q + 0) = x0) (zM0 399 2).toNat) + 5)).toNat _ = _; rw [hk9]; try rfl
      refine z_aload_n C0 hl 0 rfl dX12_writeMessage_116 ?_
      refine zg_9_10 C0 Wd zN398 zK398 zk_1622 dX12_writeMessage_117 ?_
      have hz50 : zR ((zsR k94 (zsay (zM0 399 (96 + 47 * (zlast (fun q => zM0 399 (96 + 47 * q + 0) = x0) (zM0 399 2).toNat) + 4)) (zsN 1 (zM0 399 (96 + 47 * (zlast (fun q => zM0 399 (96 + 47 * q + 0) = x0) (zM0 399 2).toNat) + 3)) (zsay 61 (zsN 0 (zM0 399 (96 + 47 * (zlast (fun q => zM0 399 (96 + 47 * q + 0) = x0) (zM0 399 2).toNat) + 2)) (zsay 62 (zsN 0 (zM0 399 (96 + 47 * (zlast (fun q => zM0 399 (96 + 47 * q + 0) = x0) (zM0 399 2).toNat) + 1)) (zsay 58 (zsN 3 x0 (zu (zu zM0 398 8 0) 398 10 0)))))))))) 398 10) := Wd.rm _ _
      exact z_iret C0 Wd hret hlk hz50 (Or.inr ⟨by omega, by rw [hw9], hw9, rfl⟩) dX12_writeMessage_120
    have lp94 : ∀ (d94 k94 : Nat) (hk94 : (k94 : Int) + d94 = (zM0 399 (96 + 47 * (zlast (fun q => zM0 399 (96 + 47 * q + 0) = x0) (zM0 399 2).toNat) + 5))) (H : Heap) (locs : List Loc) (ls : Array Slot) (Wd : zW g (zA 410 ad s.heap.size) s.heap 410 ad (zsR k94 (zsay (zM0 399 (96 + 47 * (zlast (fun q => zM0 399 (96 + 47 * q + 0) = x0) (zM0 399 2).toNat) + 4)) (zsN 1 (zM0 399 (96 + 47 * (zlast (fun q => zM0 399 (96 + 47 * q + 0) = x0) (zM0 399 2).toNat) + 3)) (zsay 61 (zsN 0 (zM0 399 (96 + 47 * (zlast (fun q => zM0 399 (96 + 47 * q + 0) = x0) (zM0 399 2).toNat) + 2)) (zsay 62 (zsN 0 (zM0 399 (96 + 47 * (zlast (fun q => zM0 399 (96 + 47 * q + 0) = x0) (zM0 399 2).toNat) + 1)) (zsay 58 (zsN 3 x0 (zu (zu zM0 398 8 0) 398 10 0)))))))))) zF0 H locs) (hl : lv_has ls 4 [(0, .ref (ad 398)), (1, .int (zI x0)), (2, .int (zI (zlast (fun q => zM0 399 (96 + 47 * q + 0) = x0) (zM0 399 2).toNat))), (3, .int (zI (k94 : Int)))]), W p l e (zrm 6 0 0) s m args below meth c H locs 0 0 (zMQ below g 410 ad (zPi (fun r M' F' => ((¬ 0 ≤ (zlast (fun q => zM0 399 (96 + 47 * q + 0) = x0) (zM0 399 2).toNat)) ∧ 0 = r ∧ (zu zM0 398 8 1) = M' ∧ zF0 = F') ∨ ((0 ≤ (zlast (fun q => zM0 399 (96 + 47 * q + 0) = x0) (zM0 399 2).toNat)) ∧ (zwK (zlast (fun q => zM0 399 (96 + 47 * q + 0) = x0) (zM0 399 2).toNat) x0 (zM0 399) (zu zM0 398 8 0) 398 10) = r ∧ (zwK (zlast (fun q => zM0 399 (96 + 47 * q + 0) = x0) (zM0 399 2).toNat) x0 (zM0 399) (zu zM0 398 8 0)) = M' ∧ zF0 = F'))) args s 0 0) (F0 m 94 ls []) := by
      intro d94
      induction d94 with
      | zero =>
        intro k94 hk94  H locs ls Wd hl
        have hr9 := zsR_n (M := (zsay (zM0 399 (96 + 47 * (zlast (fun q => zM0 399 (96 + 47 * q + 0) = x0) (zM0 399 2).toNat) + 4)) (zsN 1 (zM0 399 (96 + 47 * (zlast (fun q => zM0 399 (96 + 47 * q + 0) = x0) (zM0 399 2).toNat) + 3)) (zsay 61 (zsN 0 (zM0 399 (96 + 47 * (zlast (fun q => zM0 399 (96 + 47 * q + 0) = x0) (zM0 399 2).toNat) + 2)) (zsay 62 (zsN 0 (zM0 399 (96 + 47 * (zlast (fun q => zM0 399 (96 + 47 * q + 0) = x0) (zM0 399 2).toNat) + 1)) (zsay 58 (zsN 3 x0 (zu (zu zM0 398 8 0) 398 10 0)))))))))) k94
        refine z_iload_n C0 hl 3 rfl dX12_writeMessage_94 ?_
        refine z_aload_n C0 hl 0 rfl dX12_writeMessage_95 ?_
        refine z_iload_n C0 hl 2 rfl dX12_writeMessage_96 ?_
        refine z_iconst C0 dX12_writeMessage_97 ?_
        refine z_invVi (As := [.int (zI (zlast (fun q => zM0 399 (96 + 47 * q + 0) = x0) (zM0 399 2).toNat)), .int (zI 5)]) (rest := [.int (zI (k94 : Int))]) C0 Wd (ct_X12_of l g ad (zsR k94 (zsay (zM0 399 (96 + 47 * (zlast (fun q => zM0 399 (96 + 47 * q + 0) = x0) (zM0 399 2).toNat) + 4)) (zsN 1 (zM0 399 (96 + 47 * (zlast (fun q => zM0 399 (96 + 47 * q + 0) = x0) (zM0 399 2).toNat) + 3)) (zsay 61 (zsN 0 (zM0 399 (96 + 47 * (zlast (fun q => zM0 399 (96 + 47 * q + 0) = x0) (zM0 399 2).toNat) + 2)) (zsay 62 (zsN 0 (zM0 399 (96 + 47 * (zlast (fun q => zM0 399 (96 + 47 * q + 0) = x0) (zM0 399 2).toNat) + 1)) (zsay 58 (zsN 3 x0 (zu (zu zM0 398 8 0) 398 10 0)))))))))) zF0 (zlast (fun q => zM0 399 (96 + 47 * q + 0) = x0) (zM0 399 2).toNat) hrr1 5 (zR_mk (by decide) (by decide)) (by omega)) kv_X12_of zN398 (zE_9 zK398) rfl zk_1801 rfl hl.1 rfl (Nat.le_of_ble_eq_true rfl) (by decide) (by decide) dX12_writeMessage_98 (fun r51 zMr51 zFr51 H locs hrr51 hp Wd => ?_)
        obtain ⟨rfl, rfl, rfl⟩ := hp
        obtain ⟨he54, hz53⟩ : ((zsR k94 (zsay (zM0 399 (96 + 47 * (zlast (fun q => zM0 399 (96 + 47 * q + 0) = x0) (zM0 399 2).toNat) + 4)) (zsN 1 (zM0 399 (96 + 47 * (zlast (fun q => zM0 399 (96 + 47 * q + 0) = x0) (zM0 399 2).toNat) + 3)) (zsay 61 (zsN 0 (zM0 399 (96 + 47 * (zlast (fun q => zM0 399 (96 + 47 * q + 0) = x0) (zM0 399 2).toNat) + 2)) (zsay 62 (zsN 0 (zM0 399 (96 + 47 * (zlast (fun q => zM0 399 (96 + 47 * q + 0) = x0) (zM0 399 2).toNat) + 1)) (zsay 58 (zsN 3 x0 (zu (zu zM0 398 8 0) 398 10 0)))))))))) 399 (96 + 47 * (zlast (fun q => zM0 399 (96 + 47 * q + 0) = x0) (zM0 399 2).toNat) + 5)) = (zM0 399 (96 + 47 * (zlast (fun q => zM0 399 (96 + 47 * q + 0) = x0) (zM0 399 2).toNat) + 5)) ∧ zR (zM0 399 (96 + 47 * (zlast (fun q => zM0 399 (96 + 47 * q + 0) = x0) (zM0 399 2).toNat) + 5)) := (fun q => ⟨q, q ▸ hrr51⟩) ((zsR_row (by omega) (by omega) _).trans ((zsay_row (by omega) (by omega) _).trans ((zsN_row (by omega) (by omega) _).trans ((zsay_row (by omega) (by omega) _).trans ((zsN_row (by omega) (by omega) _).trans ((zsay_row (by omega) (by omega) _).trans ((zsN_row (by omega) (by omega) _).trans ((zsay_row (by omega) (by omega) _).trans ((zsN_row (by omega) (by omega) _).trans ((zu_ne (by omega)).trans (zu_ne (by omega))))))))))))
        refine z_top (congrArg zI he54) ?_
        clear he54
        refine z_icmp_ge C0 (tgt := 116) (zR_mk (by omega) (by omega)) hz53 dX12_writeMessage_101 (by decide) (fun c55 => ?_) (fun c55 => ?_)
        · skip
          first | exact aft94 k94 (by omega)  (by first | assumption | omega) _ _ _ Wd (lv_sub hl [0, 1, 2, 3] rfl) | (exfalso; omega)
        · skip
          exfalso; omega
      | succ d94 ih94 =>
        intro k94 hk94  H locs ls Wd hl
        have hr9 := zsR_n (M := (zsay (zM0 399 (96 + 47 * (zlast (fun q => zM0 399 (96 + 47 * q + 0) = x0) (zM0 399 2).toNat) + 4)) (zsN 1 (zM0 399 (96 + 47 * (zlast (fun q => zM0 399 (96 + 47 * q + 0) = x0) (zM0 399 2).toNat) + 3)) (zsay 61 (zsN 0 (zM0 399 (96 + 47 * (zlast (fun q => zM0 399 (96 + 47 * q + 0) = x0) (zM0 399 2).toNat) + 2)) (zsay 62 (zsN 0 (zM0 399 (96 + 47 * (zlast (fun q => zM0 399 (96 + 47 * q + 0) = x0) (zM0 399 2).toNat) + 1)) (zsay 58 (zsN 3 x0 (zu (zu zM0 398 8 0) 398 10 0)))))))))) k94
        refine z_iload_n C0 hl 3 rfl dX12_writeMessage_94 ?_
        refine z_aload_n C0 hl 0 rfl dX12_writeMessage_95 ?_
        refine z_iload_n C0 hl 2 rfl dX12_writeMessage_96 ?_
        refine z_iconst C0 dX12_writeMessage_97 ?_
        refine z_invVi (As := [.int (zI (zlast (fun q => zM0 399 (96 + 47 * q + 0) = x0) (zM0 399 2).toNat)), .int (zI 5)]) (rest := [.int (zI (k94 : Int))]) C0 Wd (ct_X12_of l g ad (zsR k94 (zsay (zM0 399 (96 + 47 * (zlast (fun q => zM0 399 (96 + 47 * q + 0) = x0) (zM0 399 2).toNat) + 4)) (zsN 1 (zM0 399 (96 + 47 * (zlast (fun q => zM0 399 (96 + 47 * q + 0) = x0) (zM0 399 2).toNat) + 3)) (zsay 61 (zsN 0 (zM0 399 (96 + 47 * (zlast (fun q => zM0 399 (96 + 47 * q + 0) = x0) (zM0 399 2).toNat) + 2)) (zsay 62 (zsN 0 (zM0 399 (96 + 47 * (zlast (fun q => zM0 399 (96 + 47 * q + 0) = x0) (zM0 399 2).toNat) + 1)) (zsay 58 (zsN 3 x0 (zu (zu zM0 398 8 0) 398 10 0)))))))))) zF0 (zlast (fun q => zM0 399 (96 + 47 * q + 0) = x0) (zM0 399 2).toNat) hrr1 5 (zR_mk (by decide) (by decide)) (by omega)) kv_X12_of zN398 (zE_9 zK398) rfl zk_1801 rfl hl.1 rfl (Nat.le_of_ble_eq_true rfl) (by decide) (by decide) dX12_writeMessage_98 (fun r56 zMr56 zFr56 H locs hrr56 hp Wd => ?_)
        obtain ⟨rfl, rfl, rfl⟩ := hp
        obtain ⟨he59, hz58⟩ : ((zsR k94 (zsay (zM0 399 (96 + 47 * (zlast (fun q => zM0 399 (96 + 47 * q + 0) = x0) (zM0 399 2).toNat) + 4)) (zsN 1 (zM0 399 (96 + 47 * (zlast (fun q => zM0 399 (96 + 47 * q + 0) = x0) (zM0 399 2).toNat) + 3)) (zsay 61 (zsN 0 (zM0 399 (96 + 47 * (zlast (fun q => zM0 399 (96 + 47 * q + 0) = x0) (zM0 399 2).toNat) + 2)) (zsay 62 (zsN 0 (zM0 399 (96 + 47 * (zlast (fun q => zM0 399 (96 + 47 * q + 0) = x0) (zM0 399 2).toNat) + 1)) (zsay 58 (zsN 3 x0 (zu (zu zM0 398 8 0) 398 10 0)))))))))) 399 (96 + 47 * (zlast (fun q => zM0 399 (96 + 47 * q + 0) = x0) (zM0 399 2).toNat) + 5)) = (zM0 399 (96 + 47 * (zlast (fun q => zM0 399 (96 + 47 * q + 0) = x0) (zM0 399 2).toNat) + 5)) ∧ zR (zM0 399 (96 + 47 * (zlast (fun q => zM0 399 (96 + 47 * q + 0) = x0) (zM0 399 2).toNat) + 5)) := (fun q => ⟨q, q ▸ hrr56⟩) ((zsR_row (by omega) (by omega) _).trans ((zsay_row (by omega) (by omega) _).trans ((zsN_row (by omega) (by omega) _).trans ((zsay_row (by omega) (by omega) _).trans ((zsN_row (by omega) (by omega) _).trans ((zsay_row (by omega) (by omega) _).trans ((zsN_row (by omega) (by omega) _).trans ((zsay_row (by omega) (by omega) _).trans ((zsN_row (by omega) (by omega) _).trans ((zu_ne (by omega)).trans (zu_ne (by omega))))))))))))
        refine z_top (congrArg zI he59) ?_
        clear he59
        refine z_icmp_ge C0 (tgt := 116) (zR_mk (by omega) (by omega)) hz58 dX12_writeMessage_101 (by decide) (fun c60 => ?_) (fun c60 => ?_)
        · skip
          first | exact aft94 k94 (by omega)  (by first | assumption | omega) _ _ _ Wd (lv_sub hl [0, 1, 2, 3] rfl) | (exfalso; omega)
        · skip
          refine z_aload_n C0 hl 0 rfl dX12_writeMessage_104 ?_
          refine z_bipush C0 dX12_writeMessage_105 (by decide) ?_
          refine z_invVv (As := [.int (zI 33)]) (rest := []) C0 Wd (ct_X12_says_s l g ad (zsR k94 (zsay (zM0 399 (96 + 47 * (zlast (fun q => zM0 399 (96 + 47 * q + 0) = x0) (zM0 399 2).toNat) + 4)) (zsN 1 (zM0 399 (96 + 47 * (zlast (fun q => zM0 399 (96 + 47 * q + 0) = x0) (zM0 399 2).toNat) + 3)) (zsay 61 (zsN 0 (zM0 399 (96 + 47 * (zlast (fun q => zM0 399 (96 + 47 * q + 0) = x0) (zM0 399 2).toNat) + 2)) (zsay 62 (zsN 0 (zM0 399 (96 + 47 * (zlast (fun q => zM0 399 (96 + 47 * q + 0) = x0) (zM0 399 2).toNat) + 1)) (zsay 58 (zsN 3 x0 (zu (zu zM0 398 8 0) 398 10 0)))))))))) zF0 33 (zR_mk (by decide) (by decide)) (by omega) (by omega)) kv_X12_says zN398 (zE_9 zK398) rfl zk_1992 rfl hl.1 rfl (Nat.le_of_ble_eq_true rfl) (by decide) (by decide) dX12_writeMessage_107 (fun zMr61 zFr61 H locs hp Wd => ?_)
          obtain ⟨rfl, rfl⟩ := hp
          refine z_iinc C0 hl 3 (t := (k94 : Int)) (u := ((k94 : Int) + 1)) rfl (by omega) [(3, .int (zI ((k94 : Int) + 1))), (0, .ref (ad 398)), (1, .int (zI x0)), (2, .int (zI (zlast (fun q => zM0 399 (96 + 47 * q + 0) = x0) (zM0 399 2).toNat)))] (by decide) rfl dX12_writeMessage_110 (fun ls hl => ?_)
          refine z_goto C0 (tgt := 94) dX12_writeMessage_113 (by decide) ?_
          exact ih94 (k94 + 1) (by omega)  _ _ _ Wd (lv_sub hl [1, 2, 3, 0] rfl)
    exact lp94 ((zM0 399 (96 + 47 * (zlast (fun q => zM0 399 (96 + 47 * q + 0) = x0) (zM0 399 2).toNat) + 5))).toNat 0 (by omega)  _ _ _ Wd (lv_sub hl [2, 3, 1, 0] rfl)
