/-! the messages -/
set_option maxHeartbeats 4000000 in
set_option maxRecDepth 100000 in
theorem lw_messages (l : Launch) (g : zG) (zX : va_W) (ad : Int → Nat) (M F : zMem) {t many : Int} {V : Int → Int} {U : Int → Int → Int} (hL : zLw t many V U M F) (ht : t ≤ 9000) (h3 : V 3 ≤ 30) (hst : l.stackTraces = false) : zMt l yL_messages cL_messages 10 (some .boolean) 14 468 3658 g (0, 398, zX) ad [.ref (ad 0)] M F (zPi (fun k M' F' => k = 1 ∧ zLw t many V U M' F')) := by
  refine zMt.of "DrumWarrenLaw" rfl (by decide +kernel) (Nat.le_of_ble_eq_true rfl) (fun {p e s m args below meth c ls} C0 Wd hl hret hlk hin => ?_)
  have hl : lv_has ls 10 [(0, .ref (ad 0))] := hl
  have hv1 := hL.v1
  have hv2 := hL.v2
  have hv0 := hL.v0
  have hv6 := hL.v6
  have hv7 := hL.v7
  have h99 := zpl_99 hL h3
  refine z_aload_n C0 hl 0 rfl dL_messages_0 ?_
  refine z_invVi (As := []) (rest := []) C0 Wd (hv_messageCount l g zX ad M F hL) kv_X11_messageCount zN0 (zE_8 zK0) rfl zk_871 rfl hl.1 rfl (Nat.le_of_ble_eq_true rfl) (by decide) ⟨by show _ ≤ 468; omega, by show _ ≤ 3658; omega⟩ dL_messages_1 (fun k1 M1 F1 H locs hr1 hp1 Wd => ?_)
  obtain ⟨rfl, hQ1⟩ := hp1
  have hL1 := hQ1.1
  refine z_istore_n C0 hl [(1, .int (zI (V 2))), (0, .ref (ad 0))] (by decide) rfl dL_messages_4 (fun ls hl => ?_)
  refine z_bipush C0 dL_messages_5 (by decide) ?_
  refine dr_new C0 Wd ⟨by show _ ≤ 468; omega, by show _ ≤ 3658; omega⟩ dL_messages_7 (fun dk H locs Wd => ?_)
  refine z_astore_n C0 hl [(2, .ref dk), (1, .int (zI (V 2))), (0, .ref (ad 0))] (by decide) rfl dL_messages_9 (fun ls hl => ?_)
  refine z_iconst C0 dL_messages_10 ?_
  refine z_istore_n C0 hl [(3, .int (zI 0)), (2, .ref dk), (1, .int (zI (V 2))), (0, .ref (ad 0))] (by decide) rfl dL_messages_11 (fun ls hl => ?_)
  have hb12 : V 2 ≤ 8 := by omega
  have aft12 : ∀ (k12 : Nat) (hk12 : (k12 : Int) ≤ V 2) (D : Int → Int) (M9012 F9012 : zMem) (hL9012 : zLw t many V U M9012 F9012) (hD9 : ∀ j, zR (D j)) (hDi : ∀ x, 0 ≤ x → x < 8 → D x = zcnt (zDP V x) k12) (hx12 : (k12 : Int) = V 2) (H : Heap) (locs : List Loc) (ls : Array Slot) (Wd : zW g (zA (0, 398, zX) ad s.heap.size) s.heap (0, 398, ([dcl g dk D] ++ zX)) ad M9012 F9012 H locs) (hl : lv_has ls 10 [(0, .ref (ad 0)), (1, .int (zI (V 2))), (2, .ref dk), (3, .int (zI (k12 : Int)))]), W p l e (zrm 14 468 3658) s m args below meth c H locs (457) (3592) (zMQ below g (0, 398, zX) ad (zPi (fun k M' F' => k = 1 ∧ zLw t many V U M' F')) args s 468 3658) (F0 m 336 ls []) := by
    intro k12 hk12 D M9012 F9012 hL9012 hD9 hDi hx12 H locs ls Wd hl
    have hD2 : ∀ x, 0 ≤ x → x < 8 → D x ≤ 1 := fun x x0 x1 => by rw [hDi x x0 x1]; exact zDP_1 hL.one k12 (by omega)
    replace hl : lv_has ls 10 [(0, .ref (ad 0)), (1, .int (zI (V 2))), (2, .ref dk)] := lv_sub hl [0, 1, 2] rfl
    refine z_iconst C0 dL_messages_336 ?_
    refine z_istore_n C0 hl [(3, .int (zI 1)), (0, .ref (ad 0)), (1, .int (zI (V 2))), (2, .ref dk)] (by decide) rfl dL_messages_337 (fun ls hl => ?_)
    refine z_aload_n C0 hl 3 rfl dL_messages_338 ?_
    refine z_astore C0 hl [(4, .ref dk), (3, .int (zI 1)), (0, .ref (ad 0)), (1, .int (zI (V 2))), (2, .ref dk)] (by decide) rfl dL_messages_339 (fun ls hl => ?_)
    refine z_aload C0 hl 0 rfl dL_messages_341 ?_
    refine dr_len C0 Wd hD9 dL_messages_343 ?_
    refine z_istore C0 hl [(5, .int (zI 8)), (4, .ref dk), (3, .int (zI 1)), (0, .ref (ad 0)), (1, .int (zI (V 2))), (2, .ref dk)] (by decide) rfl dL_messages_344 (fun ls hl => ?_)
    refine z_iconst C0 dL_messages_346 ?_
    refine z_istore C0 hl [(6, .int (zI 0)), (5, .int (zI 8)), (4, .ref dk), (3, .int (zI 1)), (0, .ref (ad 0)), (1, .int (zI (V 2))), (2, .ref dk)] (by decide) rfl dL_messages_347 (fun ls hl => ?_)
    have hb349 : 8 ≤ 8 := by omega
    have aft349 : ∀ (k349 : Nat) (hk349 : (k349 : Int) ≤ 8) (M9349 F9349 : zMem) (hL9349 : zLw t many V U M9349 F9349) (hx349 : (k349 : Int) = 8) (H : Heap) (locs : List Loc) (ls : Array Slot) (Wd : zW g (zA (0, 398, zX) ad s.heap.size) s.heap (0, 398, ([dcl g dk D] ++ zX)) ad M9349 F9349 H locs) (hl : lv_has ls 10 [(0, .ref (ad 0)), (1, .int (zI (V 2))), (3, .int (zI 1)), (4, .ref dk), (5, .int (zI 8)), (6, .int (zI (k349 : Int)))]), W p l e (zrm 14 468 3658) s m args below meth c H locs (457) (3592) (zMQ below g (0, 398, zX) ad (zPi (fun k M' F' => k = 1 ∧ zLw t many V U M' F')) args s 468 3658) (F0 m 385 ls []) := by
      intro k349 hk349 M9349 F9349 hL9349 hx349 H locs ls Wd hl
      replace hl : lv_has ls 10 [(0, .ref (ad 0)), (1, .int (zI (V 2))), (3, .int (zI 1))] := lv_sub hl [0, 1, 2] rfl
      refine z_aload_n C0 hl 0 rfl dL_messages_385 ?_
      refine z_invVi (As := []) (rest := []) C0 Wd (hv_deliveries l g ([dcl g dk D] ++ zX) ad M9349 F9349 hL9349) kv_X11_deliveries zN0 (zE_8 zK0) rfl zk_963 rfl hl.1 rfl (Nat.le_of_ble_eq_true rfl) (by decide) ⟨by show _ ≤ 468; omega, by show _ ≤ 3658; omega⟩ dL_messages_386 (fun k3 M3 F3 H locs hr3 hp3 Wd => ?_)
      obtain ⟨rfl, hQ3⟩ := hp3
      have hL3 := hQ3.1
      refine z_aload_n C0 hl 0 rfl dL_messages_389 ?_
      refine z_invVi (As := []) (rest := [.int (zI (V 6))]) C0 Wd (hv_losses l g ([dcl g dk D] ++ zX) ad M3 F3 hL3) kv_X11_losses zN0 (zE_8 zK0) rfl zk_1387 rfl hl.1 rfl (Nat.le_of_ble_eq_true rfl) (by decide) ⟨by show _ ≤ 468; omega, by show _ ≤ 3658; omega⟩ dL_messages_390 (fun k4 M4 F4 H locs hr4 hp4 Wd => ?_)
      obtain ⟨rfl, hQ4⟩ := hp4
      have hL4 := hQ4.1
      refine z_iadd C0 dL_messages_393 ?_
      refine z_istore C0 hl [(4, .int (zI ((V 6) + (V 7)))), (0, .ref (ad 0)), (1, .int (zI (V 2))), (3, .int (zI 1))] (by decide) rfl dL_messages_394 (fun ls hl => ?_)
      have jn423 : ∀ (M8423 F8423 : zMem) (hL8423 : zLw t many V U M8423 F8423) (H : Heap) (locs : List Loc) (ls : Array Slot) (Wd : zW g (zA (0, 398, zX) ad s.heap.size) s.heap (0, 398, ([dcl g dk D] ++ zX)) ad M8423 F8423 H locs) (hl : lv_has ls 10 [(0, .ref (ad 0)), (1, .int (zI (V 2))), (3, .int (zI 1)), (4, .int (zI ((V 6) + (V 7))))]), W p l e (zrm 14 468 3658) s m args below meth c H locs (458) (3598) (zMQ below g (0, 398, zX) ad (zPi (fun k M' F' => k = 1 ∧ zLw t many V U M' F')) args s 468 3658) (F0 m 423 ls [.int (zI 1)]) := by
        intro M8423 F8423 hL8423 H locs ls Wd hl
        refine z_istore C0 hl [(5, .int (zI 1)), (0, .ref (ad 0)), (1, .int (zI (V 2))), (3, .int (zI 1)), (4, .int (zI ((V 6) + (V 7))))] (by decide) rfl dL_messages_423 (fun ls hl => ?_)
        refine z_iload_n C0 hl 3 rfl dL_messages_425 ?_
        refine z_if_eq C0 (tgt := 541) (zR_mk (by decide) (by decide)) dL_messages_426 (by decide) (fun h => absurd h (by decide)) (fun _ => ?_)
        refine z_iload C0 hl 0 rfl dL_messages_429 ?_
        refine z_if_eq C0 (tgt := 541) (zR_mk (by decide) (by decide)) dL_messages_431 (by decide) (fun h => absurd h (by decide)) (fun _ => ?_)
        refine z_aload_n C0 hl 1 rfl dL_messages_434 ?_
        refine z_invVi (As := []) (rest := []) C0 Wd (hv_isConsistent l g ([dcl g dk D] ++ zX) ad M8423 F8423 hL8423) kv_X11_isConsistent zN0 (zE_8 zK0) rfl zk_1411 rfl hl.1 rfl (Nat.le_of_ble_eq_true rfl) (by decide) ⟨by show _ ≤ 468; omega, by show _ ≤ 3658; omega⟩ dL_messages_435 (fun k7 M7 F7 H locs hr7 hp7 Wd => ?_)
        obtain ⟨rfl, hQ7⟩ := hp7
        have hL7 := hQ7.1
        refine z_if_eq C0 (tgt := 541) (zR_mk (by decide) (by decide)) dL_messages_438 (by decide) (fun h => absurd h (by decide)) (fun _ => ?_)
        refine z_aload_n C0 hl 1 rfl dL_messages_441 ?_
        refine z_iload_n C0 hl 2 rfl dL_messages_442 ?_
        refine z_invSH (As := [.ref (ad 0), .int (zI (V 2))]) (rest := []) C0 Wd hst (hq_messageAt l g ([dcl g dk D] ++ zX) ad M7 F7 hL7 (V 2) hr1 ) hs_messageAt zk_875 rfl hl.1 rfl (Nat.le_of_ble_eq_true rfl) (by decide) ⟨by show _ ≤ 468; omega, by show _ ≤ 3658; omega⟩ dL_messages_443 (fun k9 M9 F9 H locs hr9 hp9 Wd => ?_)
        obtain ⟨rfl, hQ9⟩ := hp9
        have hL9 := hQ9.1
        obtain ⟨he10, hr9⟩ : (qMa V (V 2)) = (-11) ∧ zR (-11) := (fun q => ⟨q, q ▸ hr9⟩) (qMa_out (fun h => by omega))
        refine z_top (congrArg zI he10) ?_
        clear he10
        refine z_bipush C0 dL_messages_446 (by decide) ?_
        refine z_icmp_ne C0 (tgt := 541) (zR_mk (by decide) (by decide)) (zR_mk (by decide) (by decide)) dL_messages_448 (by decide) (fun h => absurd h (by decide)) (fun _ => ?_)
        refine z_aload_n C0 hl 1 rfl dL_messages_451 ?_
        refine z_iconst C0 dL_messages_452 ?_
        refine z_invSH (As := [.ref (ad 0), .int (zI (-1))]) (rest := []) C0 Wd hst (hq_messageAt l g ([dcl g dk D] ++ zX) ad M9 F9 hL9 (-1) (zR_mk (by decide) (by decide)) ) hs_messageAt zk_875 rfl hl.1 rfl (Nat.le_of_ble_eq_true rfl) (by decide) ⟨by show _ ≤ 468; omega, by show _ ≤ 3658; omega⟩ dL_messages_453 (fun k12 M12 F12 H locs hr12 hp12 Wd => ?_)
        obtain ⟨rfl, hQ12⟩ := hp12
        have hL12 := hQ12.1
        obtain ⟨he13, hr12⟩ : (qMa V (-1)) = (-11) ∧ zR (-11) := (fun q => ⟨q, q ▸ hr12⟩) (qMa_out (fun h => by omega))
        refine z_top (congrArg zI he13) ?_
        clear he13
        refine z_bipush C0 dL_messages_456 (by decide) ?_
        refine z_icmp_ne C0 (tgt := 541) (zR_mk (by decide) (by decide)) (zR_mk (by decide) (by decide)) dL_messages_458 (by decide) (fun h => absurd h (by decide)) (fun _ => ?_)
        refine z_aload_n C0 hl 1 rfl dL_messages_461 ?_
        refine z_bipush C0 dL_messages_462 (by decide) ?_
        refine z_invSH (As := [.ref (ad 0), .int (zI 99)]) (rest := []) C0 Wd hst (hq_sender l g ([dcl g dk D] ++ zX) ad M12 F12 hL12 99 (zR_mk (by decide) (by decide)) ) hs_sender zk_899 rfl hl.1 rfl (Nat.le_of_ble_eq_true rfl) (by decide) ⟨by show _ ≤ 468; omega, by show _ ≤ 3658; omega⟩ dL_messages_464 (fun k15 M15 F15 H locs hr15 hp15 Wd => ?_)
        obtain ⟨rfl, hQ15⟩ := hp15
        have hL15 := hQ15.1
        obtain ⟨he16, hr15⟩ : (qMs V 1 99) = (-13) ∧ zR (-13) := (fun q => ⟨q, q ▸ hr15⟩) (qMs_no h99.1)
        refine z_top (congrArg zI he16) ?_
        clear he16
        refine z_bipush C0 dL_messages_467 (by decide) ?_
        refine z_icmp_ne C0 (tgt := 541) (zR_mk (by decide) (by decide)) (zR_mk (by decide) (by decide)) dL_messages_469 (by decide) (fun h => absurd h (by decide)) (fun _ => ?_)
        refine z_aload_n C0 hl 1 rfl dL_messages_472 ?_
        refine z_iconst C0 dL_messages_473 ?_
        refine z_invSH (As := [.ref (ad 0), .int (zI (-1))]) (rest := []) C0 Wd hst (hq_receiver l g ([dcl g dk D] ++ zX) ad M15 F15 hL15 (-1) (zR_mk (by decide) (by decide)) ) hs_receiver zk_1346 rfl hl.1 rfl (Nat.le_of_ble_eq_true rfl) (by decide) ⟨by show _ ≤ 468; omega, by show _ ≤ 3658; omega⟩ dL_messages_474 (fun k18 M18 F18 H locs hr18 hp18 Wd => ?_)
        obtain ⟨rfl, hQ18⟩ := hp18
        have hL18 := hQ18.1
        obtain ⟨he19, hr18⟩ : (qMs V 2 (-1)) = (-13) ∧ zR (-13) := (fun q => ⟨q, q ▸ hr18⟩) (qMs_no h99.2)
        refine z_top (congrArg zI he19) ?_
        clear he19
        refine z_bipush C0 dL_messages_477 (by decide) ?_
        refine z_icmp_ne C0 (tgt := 541) (zR_mk (by decide) (by decide)) (zR_mk (by decide) (by decide)) dL_messages_479 (by decide) (fun h => absurd h (by decide)) (fun _ => ?_)
        refine z_aload_n C0 hl 1 rfl dL_messages_482 ?_
        refine z_bipush C0 dL_messages_483 (by decide) ?_
        refine z_invSH (As := [.ref (ad 0), .int (zI 99)]) (rest := []) C0 Wd hst (hq_state l g ([dcl g dk D] ++ zX) ad M18 F18 hL18 99 (zR_mk (by decide) (by decide)) ) hs_state zk_883 rfl hl.1 rfl (Nat.le_of_ble_eq_true rfl) (by decide) ⟨by show _ ≤ 468; omega, by show _ ≤ 3658; omega⟩ dL_messages_485 (fun k21 M21 F21 H locs hr21 hp21 Wd => ?_)
        obtain ⟨rfl, hQ21⟩ := hp21
        have hL21 := hQ21.1
        obtain ⟨he22, hr21⟩ : (qMs V 4 99) = (-13) ∧ zR (-13) := (fun q => ⟨q, q ▸ hr21⟩) (qMs_no h99.1)
        refine z_top (congrArg zI he22) ?_
        clear he22
        refine z_bipush C0 dL_messages_488 (by decide) ?_
        refine z_icmp_ne C0 (tgt := 541) (zR_mk (by decide) (by decide)) (zR_mk (by decide) (by decide)) dL_messages_490 (by decide) (fun h => absurd h (by decide)) (fun _ => ?_)
        refine z_aload_n C0 hl 1 rfl dL_messages_493 ?_
        refine z_bipush C0 dL_messages_494 (by decide) ?_
        refine z_invSH (As := [.ref (ad 0), .int (zI 99)]) (rest := []) C0 Wd hst (hq_timesLost l g ([dcl g dk D] ++ zX) ad M21 F21 hL21 99 (zR_mk (by decide) (by decide)) ) hs_timesLost zk_977 rfl hl.1 rfl (Nat.le_of_ble_eq_true rfl) (by decide) ⟨by show _ ≤ 468; omega, by show _ ≤ 3658; omega⟩ dL_messages_496 (fun k24 M24 F24 H locs hr24 hp24 Wd => ?_)
        obtain ⟨rfl, hQ24⟩ := hp24
        have hL24 := hQ24.1
        obtain ⟨he25, hr24⟩ : (qMs V 5 99) = (-13) ∧ zR (-13) := (fun q => ⟨q, q ▸ hr24⟩) (qMs_no h99.1)
        refine z_top (congrArg zI he25) ?_
        clear he25
        refine z_bipush C0 dL_messages_499 (by decide) ?_
        refine z_icmp_ne C0 (tgt := 541) (zR_mk (by decide) (by decide)) (zR_mk (by decide) (by decide)) dL_messages_501 (by decide) (fun h => absurd h (by decide)) (fun _ => ?_)
        refine z_aload_n C0 hl 1 rfl dL_messages_504 ?_
        refine z_bipush C0 dL_messages_505 (by decide) ?_
        refine z_invSH (As := [.ref (ad 0), .int (zI 99)]) (rest := []) C0 Wd hst (hq_beats l g ([dcl g dk D] ++ zX) ad M24 F24 hL24 99 (zR_mk (by decide) (by decide)) ) hs_beats zk_1349 rfl hl.1 rfl (Nat.le_of_ble_eq_true rfl) (by decide) ⟨by show _ ≤ 468; omega, by show _ ≤ 3658; omega⟩ dL_messages_507 (fun k27 M27 F27 H locs hr27 hp27 Wd => ?_)
        obtain ⟨rfl, hQ27⟩ := hp27
        have hL27 := hQ27.1
        obtain ⟨he28, hr27⟩ : (qMs V 6 99) = (-13) ∧ zR (-13) := (fun q => ⟨q, q ▸ hr27⟩) (qMs_no h99.1)
        refine z_top (congrArg zI he28) ?_
        clear he28
        refine z_bipush C0 dL_messages_510 (by decide) ?_
        refine z_icmp_ne C0 (tgt := 541) (zR_mk (by decide) (by decide)) (zR_mk (by decide) (by decide)) dL_messages_512 (by decide) (fun h => absurd h (by decide)) (fun _ => ?_)
        refine z_aload_n C0 hl 1 rfl dL_messages_515 ?_
        refine z_bipush C0 dL_messages_516 (by decide) ?_
        refine z_invSH (As := [.ref (ad 0), .int (zI 99)]) (rest := []) C0 Wd hst (hq_until l g ([dcl g dk D] ++ zX) ad M27 F27 hL27 99 (zR_mk (by decide) (by decide)) (by omega)) hs_until zk_1356 rfl hl.1 rfl (Nat.le_of_ble_eq_true rfl) (by decide) ⟨by show _ ≤ 468; omega, by show _ ≤ 3658; omega⟩ dL_messages_518 (fun k30 M30 F30 H locs hr30 hp30 Wd => ?_)
        obtain ⟨rfl, hQ30⟩ := hp30
        have hL30 := hQ30.1
        obtain ⟨he31, hr30⟩ : (qUn V 99) = (-13) ∧ zR (-13) := (fun q => ⟨q, q ▸ hr30⟩) (qUn_no h99.1)
        refine z_top (congrArg zI he31) ?_
        clear he31
        refine z_bipush C0 dL_messages_521 (by decide) ?_
        refine z_icmp_ne C0 (tgt := 541) (zR_mk (by decide) (by decide)) (zR_mk (by decide) (by decide)) dL_messages_523 (by decide) (fun h => absurd h (by decide)) (fun _ => ?_)
        refine z_aload_n C0 hl 1 rfl dL_messages_526 ?_
        refine z_bipush C0 dL_messages_527 (by decide) ?_
        refine z_invSH (As := [.ref (ad 0), .int (zI 99)]) (rest := []) C0 Wd hst (hq_writeMessage l g ([dcl g dk D] ++ zX) ad M30 F30 hL30 99 (zR_mk (by decide) (by decide)) (by omega)) hs_writeMessage zk_987 rfl hl.1 rfl (Nat.le_of_ble_eq_true rfl) (by decide) ⟨by show _ ≤ 468; omega, by show _ ≤ 3658; omega⟩ dL_messages_529 (fun k33 M33 F33 H locs hr33 hp33 Wd => ?_)
        obtain ⟨-, rfl, hQ33⟩ := hp33.resolve_left (fun q => q.1 h99.1)
        have hL33 := hQ33.1
        refine z_bipush C0 dL_messages_532 (by decide) ?_
        refine z_icmp_ne C0 (tgt := 541) (zR_mk (by decide) (by decide)) (zR_mk (by decide) (by decide)) dL_messages_534 (by decide) (fun h => absurd h (by decide)) (fun _ => ?_)
        refine z_iconst C0 dL_messages_537 ?_
        refine z_goto C0 (tgt := 542) dL_messages_538 (by decide) ?_
        replace Wd := zW_sub (X := zX) Wd ((List.Sublist.refl _).trans (List.sublist_append_right [dcl g dk D] _))
        refine W.widen (k := 468) (n := 3658) (by omega) (by omega) ?_
        exact z_zret C0 Wd hret hlk (by first | exact Or.inl rfl | exact Or.inr rfl) ⟨rfl, hL33⟩ dL_messages_542
      refine z_iload C0 hl 0 rfl dL_messages_396 ?_
      refine z_if_eq C0 (tgt := 418) (by have q0 := hr3.1; have p0 := hr3.2; have q1 := hr4.1; have p1 := hr4.2; exact zR_mk (by omega) (by omega)) dL_messages_398 (by decide) (fun c35 => ?_) (fun c35 => ?_)
      · skip
        refine z_iconst C0 dL_messages_418 ?_
        refine z_goto C0 (tgt := 423) dL_messages_419 (by decide) ?_
        refine W.widen (k := (458)) (n := (3598)) (by omega) (by omega) ?_
        exact jn423  M4 F4 hL4  _ _ _ Wd (lv_sub hl [1, 2, 3, 0] rfl)
      · skip
        refine z_aload_n C0 hl 1 rfl dL_messages_401 ?_
        refine z_invQd (As := []) (rest := []) C0 Wd hst (hv_deliveryFraction l g ([dcl g dk D] ++ zX) ad M4 F4 hL4  (by omega) (by omega)) kv_X11_deliveryFraction zN0 (zE_8 zK0) rfl zk_1391 rfl hl.1 rfl (Nat.le_of_ble_eq_true rfl) (by decide) ⟨by show _ ≤ 468; omega, by show _ ≤ 3658; omega⟩ dL_messages_402 (fun k36 M36 F36 H locs hp36 Wd => ?_)
        obtain ⟨rfl, hQ36⟩ := hp36
        have hL36 := hQ36.1
        refine z_aload_n C0 hl 1 rfl dL_messages_405 ?_
        refine z_invVi (As := []) (rest := [.double (zDf V)]) C0 Wd (hv_deliveries l g ([dcl g dk D] ++ zX) ad M36 F36 hL36) kv_X11_deliveries zN0 (zE_8 zK0) rfl zk_963 rfl hl.1 rfl (Nat.le_of_ble_eq_true rfl) (by decide) ⟨by show _ ≤ 468; omega, by show _ ≤ 3658; omega⟩ dL_messages_406 (fun k37 M37 F37 H locs hr37 hp37 Wd => ?_)
        obtain ⟨rfl, hQ37⟩ := hp37
        have hL37 := hQ37.1
        refine z_i2d C0 dL_messages_409 ?_
        refine z_iload C0 hl 0 rfl dL_messages_410 ?_
        refine z_i2d C0 dL_messages_412 ?_
        refine z_ddiv C0 (zf_ok64 (zDf_ok (V := V) ⟨by omega, by omega⟩ ⟨by omega, by omega⟩)) dL_messages_413 ?_
        refine z_dcmp C0 (v := 0) (by rw [show FP.ddiv (FP.i2d (zI (V 6))) (FP.i2d (zI (V 6 + V 7))) = zDf V from rfl, zf_cmp64 (zDf_ok (V := V) ⟨by omega, by omega⟩ ⟨by omega, by omega⟩)]; rfl) dL_messages_414 ?_
        refine z_if_ne C0 (tgt := 422) (zR_mk (by decide) (by decide)) dL_messages_415 (by decide) (fun h => absurd h (by decide)) (fun _ => ?_)
        refine z_iconst C0 dL_messages_418 ?_
        refine z_goto C0 (tgt := 423) dL_messages_419 (by decide) ?_
        refine W.widen (k := (458)) (n := (3598)) (by omega) (by omega) ?_
        exact jn423  M37 F37 hL37  _ _ _ Wd (lv_sub hl [1, 2, 3, 0] rfl)
    have lp349 : ∀ (d349 k349 : Nat) (hk349 : (k349 : Int) + d349 = 8) (M9349 F9349 : zMem) (hL9349 : zLw t many V U M9349 F9349) (H : Heap) (locs : List Loc) (ls : Array Slot) (Wd : zW g (zA (0, 398, zX) ad s.heap.size) s.heap (0, 398, ([dcl g dk D] ++ zX)) ad M9349 F9349 H locs) (hl : lv_has ls 10 [(0, .ref (ad 0)), (1, .int (zI (V 2))), (3, .int (zI 1)), (4, .ref dk), (5, .int (zI 8)), (6, .int (zI (k349 : Int)))]), W p l e (zrm 14 468 3658) s m args below meth c H locs (0 * k349 + 457) (0 * k349 + 3592) (zMQ below g (0, 398, zX) ad (zPi (fun k M' F' => k = 1 ∧ zLw t many V U M' F')) args s 468 3658) (F0 m 349 ls []) := by
      intro d349
      induction d349 with
      | zero =>
        intro k349 hk349 M9349 F9349 hL9349 H locs ls Wd hl
        have hd2 := fun (q : (k349 : Int) < 8) => hD2 (k349 : Int) (by omega) q
        refine z_iload C0 hl 5 rfl dL_messages_349 ?_
        refine z_iload C0 hl 4 rfl dL_messages_351 ?_
        refine z_icmp_ge C0 (tgt := 385) (zR_mk (by omega) (by omega)) (zR_mk (by decide) (by decide)) dL_messages_353 (by decide) (fun c39 => ?_) (fun c39 => ?_)
        · skip
          refine W.widen (k := (457)) (n := (3592)) (by omega) (by omega) ?_
          exact aft349 k349 (by omega)  M9349 F9349 hL9349  (by first | assumption | omega) _ _ _ Wd (lv_sub hl [0, 1, 2, 3, 4, 5] rfl)
        · skip
          exfalso; omega
      | succ d349 ih349 =>
        intro k349 hk349 M9349 F9349 hL9349 H locs ls Wd hl
        have hd2 := fun (q : (k349 : Int) < 8) => hD2 (k349 : Int) (by omega) q
        refine z_iload C0 hl 5 rfl dL_messages_349 ?_
        refine z_iload C0 hl 4 rfl dL_messages_351 ?_
        refine z_icmp_ge C0 (tgt := 385) (zR_mk (by omega) (by omega)) (zR_mk (by decide) (by decide)) dL_messages_353 (by decide) (fun c40 => ?_) (fun c40 => ?_)
        · skip
          exfalso; omega
        · skip
          have hd3 := hd2 (by omega)
          refine z_aload C0 hl 3 rfl dL_messages_356 ?_
          refine z_iload C0 hl 5 rfl dL_messages_358 ?_
          refine dr_ald C0 Wd hD9 (by omega) (by omega) dL_messages_360 ?_
          refine z_istore C0 hl [(7, .int (zI (D (k349 : Int)))), (0, .ref (ad 0)), (1, .int (zI (V 2))), (3, .int (zI 1)), (4, .ref dk), (5, .int (zI 8)), (6, .int (zI (k349 : Int)))] (by decide) rfl dL_messages_361 (fun ls hl => ?_)
          refine z_iload_n C0 hl 3 rfl dL_messages_363 ?_
          refine z_if_eq C0 (tgt := 377) (zR_mk (by decide) (by decide)) dL_messages_364 (by decide) (fun h => absurd h (by decide)) (fun _ => ?_)
          refine z_iload C0 hl 0 rfl dL_messages_367 ?_
          refine z_iconst C0 dL_messages_369 ?_
          refine z_icmp_ge C0 (tgt := 377) (hD9 _) (zR_mk (by decide) (by decide)) dL_messages_370 (by decide) (fun h9 => (by exfalso; omega)) (fun c42 => ?_)
          refine z_iconst C0 dL_messages_373 ?_
          refine z_goto C0 (tgt := 378) dL_messages_374 (by decide) ?_
          refine z_istore_n C0 hl [(3, .int (zI 1)), (7, .int (zI (D (k349 : Int)))), (0, .ref (ad 0)), (1, .int (zI (V 2))), (4, .ref dk), (5, .int (zI 8)), (6, .int (zI (k349 : Int)))] (by decide) rfl dL_messages_378 (fun ls hl => ?_)
          refine z_iinc C0 hl 6 (t := (k349 : Int)) (u := ((k349 : Int) + 1)) rfl (by omega) [(6, .int (zI ((k349 : Int) + 1))), (3, .int (zI 1)), (7, .int (zI (D (k349 : Int)))), (0, .ref (ad 0)), (1, .int (zI (V 2))), (4, .ref dk), (5, .int (zI 8))] (by decide) rfl dL_messages_379 (fun ls hl => ?_)
          refine z_goto C0 (tgt := 349) dL_messages_382 (by decide) ?_
          refine W.widen (k := (0 * (k349 + 1) + 457)) (n := (0 * (k349 + 1) + 3592)) (by omega) (by omega) ?_
          exact ih349 (k349 + 1) (by omega)  M9349 F9349 hL9349  _ _ _ Wd (lv_sub hl [3, 4, 1, 5, 6, 0] rfl)
    refine W.widen (k := (0 * 0 + 457)) (n := (0 * 0 + 3592)) (by omega) (by omega) ?_
    exact lp349 8 0 (by omega)  M9012 F9012 hL9012  _ _ _ Wd (lv_sub hl [4, 5, 3, 2, 1, 0] rfl)
  have lp12 : ∀ (d12 k12 : Nat) (hk12 : (k12 : Int) + d12 = V 2) (D : Int → Int) (M9012 F9012 : zMem) (hL9012 : zLw t many V U M9012 F9012) (hD9 : ∀ j, zR (D j)) (hDi : ∀ x, 0 ≤ x → x < 8 → D x = zcnt (zDP V x) k12) (H : Heap) (locs : List Loc) (ls : Array Slot) (Wd : zW g (zA (0, 398, zX) ad s.heap.size) s.heap (0, 398, ([dcl g dk D] ++ zX)) ad M9012 F9012 H locs) (hl : lv_has ls 10 [(0, .ref (ad 0)), (1, .int (zI (V 2))), (2, .ref dk), (3, .int (zI (k12 : Int)))]), W p l e (zrm 14 468 3658) s m args below meth c H locs (57 * k12 + 1) (448 * k12 + 8) (zMQ below g (0, 398, zX) ad (zPi (fun k M' F' => k = 1 ∧ zLw t many V U M' F')) args s 468 3658) (F0 m 12 ls []) := by
    intro d12
    induction d12 with
    | zero =>
      intro k12 hk12 D M9012 F9012 hL9012 hD9 hDi H locs ls Wd hl
      have hm12 := fun (q : (k12 : Int) < V 2) => hL.iv.2.2.2.2.2.2.1 (k12 : Int) (by omega) q
      refine z_iload_n C0 hl 3 rfl dL_messages_12 ?_
      refine z_iload_n C0 hl 1 rfl dL_messages_13 ?_
      refine z_icmp_ge C0 (tgt := 336) (zR_mk (by omega) (by omega)) hr1 dL_messages_14 (by decide) (fun c43 => ?_) (fun c43 => ?_)
      · skip
        refine W.widen (k := (457)) (n := (3592)) (by omega) (by omega) ?_
        exact aft12 k12 (by omega) D M9012 F9012 hL9012 (by first | assumption | omega) (by first | assumption | omega) (by first | assumption | omega) _ _ _ Wd (lv_sub hl [0, 1, 2, 3] rfl)
      · skip
        exfalso; omega
    | succ d12 ih12 =>
      intro k12 hk12 D M9012 F9012 hL9012 hD9 hDi H locs ls Wd hl
      have hm12 := fun (q : (k12 : Int) < V 2) => hL.iv.2.2.2.2.2.2.1 (k12 : Int) (by omega) q
      refine z_iload_n C0 hl 3 rfl dL_messages_12 ?_
      refine z_iload_n C0 hl 1 rfl dL_messages_13 ?_
      refine z_icmp_ge C0 (tgt := 336) (zR_mk (by omega) (by omega)) hr1 dL_messages_14 (by decide) (fun c44 => ?_) (fun c44 => ?_)
      · skip
        exfalso; omega
      · skip
        have hm9 := hm12 (by omega)
        have hs9 := hL.nn
        have hsr9 := hs9.1 (k12 : Int) (by omega) (by omega)
        have hsl9 := hs9.2.1 (k12 : Int) (by omega) (by omega)
        have hsb9 := hs9.2.2.1 (k12 : Int) (by omega) (by omega)
        have htd9 := hL.td (k12 : Int) (by omega) (by omega)
        have hz0 := zdgs_2 (x := V (96 + 47 * (k12 : Int) + 0)) (by omega)
        have hz1 := zdgs_1 (x := V (96 + 47 * (k12 : Int) + 1)) (by omega)
        have hz2 := zdgs_1 (x := V (96 + 47 * (k12 : Int) + 2)) (by omega)
        have hz3 := zdgs_2 (x := V (96 + 47 * (k12 : Int) + 3)) (by omega)
        refine z_aload_n C0 hl 0 rfl dL_messages_17 ?_
        refine z_iload_n C0 hl 3 rfl dL_messages_18 ?_
        refine z_invSH (As := [.ref (ad 0), .int (zI (k12 : Int))]) (rest := []) C0 Wd hst (hq_messageAt l g ([dcl g dk D] ++ zX) ad M9012 F9012 hL9012 (k12 : Int) (zR_mk (by omega) (by omega)) ) hs_messageAt zk_875 rfl hl.1 rfl (Nat.le_of_ble_eq_true rfl) (by decide) ⟨by show _ ≤ 468; omega, by show _ ≤ 3658; omega⟩ dL_messages_19 (fun k45 M45 F45 H locs hr45 hp45 Wd => ?_)
        obtain ⟨rfl, hQ45⟩ := hp45
        have hL45 := hQ45.1
        obtain ⟨he46, hr45⟩ : (qMa V (k12 : Int)) = (V (96 + 47 * (k12 : Int) + 0)) ∧ zR (V (96 + 47 * (k12 : Int) + 0)) := (fun q => ⟨q, q ▸ hr45⟩) (qMa_in ⟨by omega, by omega⟩)
        refine z_top (congrArg zI he46) ?_
        clear he46
        refine z_istore C0 hl [(4, .int (zI (V (96 + 47 * (k12 : Int) + 0)))), (0, .ref (ad 0)), (1, .int (zI (V 2))), (2, .ref dk), (3, .int (zI (k12 : Int)))] (by decide) rfl dL_messages_22 (fun ls hl => ?_)
        refine z_aload_n C0 hl 1 rfl dL_messages_24 ?_
        refine z_iload C0 hl 0 rfl dL_messages_25 ?_
        refine z_invSH (As := [.ref (ad 0), .int (zI (V (96 + 47 * (k12 : Int) + 0)))]) (rest := []) C0 Wd hst (hq_state l g ([dcl g dk D] ++ zX) ad M45 F45 hL45 (V (96 + 47 * (k12 : Int) + 0)) hr45 ) hs_state zk_883 rfl hl.1 rfl (Nat.le_of_ble_eq_true rfl) (by decide) ⟨by show _ ≤ 468; omega, by show _ ≤ 3658; omega⟩ dL_messages_27 (fun k47 M47 F47 H locs hr47 hp47 Wd => ?_)
        obtain ⟨rfl, hQ47⟩ := hp47
        have hL47 := hQ47.1
        obtain ⟨he48, hr47⟩ : (qMs V 4 (V (96 + 47 * (k12 : Int) + 0))) = (V (96 + 47 * (k12 : Int) + 4)) ∧ zR (V (96 + 47 * (k12 : Int) + 4)) := (fun q => ⟨q, q ▸ hr47⟩) (qMs_at hL ⟨by omega, by omega⟩)
        refine z_top (congrArg zI he48) ?_
        clear he48
        refine z_istore C0 hl [(5, .int (zI (V (96 + 47 * (k12 : Int) + 4)))), (4, .int (zI (V (96 + 47 * (k12 : Int) + 0)))), (0, .ref (ad 0)), (1, .int (zI (V 2))), (2, .ref dk), (3, .int (zI (k12 : Int)))] (by decide) rfl dL_messages_30 (fun ls hl => ?_)
        refine z_aload_n C0 hl 2 rfl dL_messages_32 ?_
        refine z_iload C0 hl 1 rfl dL_messages_33 ?_
        refine z_invSH (As := [.ref (ad 0), .int (zI (V (96 + 47 * (k12 : Int) + 0)))]) (rest := []) C0 Wd hst (hq_timesLost l g ([dcl g dk D] ++ zX) ad M47 F47 hL47 (V (96 + 47 * (k12 : Int) + 0)) hr45 ) hs_timesLost zk_977 rfl hl.1 rfl (Nat.le_of_ble_eq_true rfl) (by decide) ⟨by show _ ≤ 468; omega, by show _ ≤ 3658; omega⟩ dL_messages_35 (fun k49 M49 F49 H locs hr49 hp49 Wd => ?_)
        obtain ⟨rfl, hQ49⟩ := hp49
        have hL49 := hQ49.1
        obtain ⟨he50, hr49⟩ : (qMs V 5 (V (96 + 47 * (k12 : Int) + 0))) = (V (96 + 47 * (k12 : Int) + 5)) ∧ zR (V (96 + 47 * (k12 : Int) + 5)) := (fun q => ⟨q, q ▸ hr49⟩) (qMs_at hL ⟨by omega, by omega⟩)
        refine z_top (congrArg zI he50) ?_
        clear he50
        refine z_istore C0 hl [(6, .int (zI (V (96 + 47 * (k12 : Int) + 5)))), (5, .int (zI (V (96 + 47 * (k12 : Int) + 4)))), (4, .int (zI (V (96 + 47 * (k12 : Int) + 0)))), (0, .ref (ad 0)), (1, .int (zI (V 2))), (2, .ref dk), (3, .int (zI (k12 : Int)))] (by decide) rfl dL_messages_38 (fun ls hl => ?_)
        refine z_aload_n C0 hl 3 rfl dL_messages_40 ?_
        refine z_iload C0 hl 2 rfl dL_messages_41 ?_
        refine z_invSi (As := [.ref (ad 0), .int (zI (V (96 + 47 * (k12 : Int) + 0)))]) (rest := []) C0 Wd (lw_numberOf l g ([dcl g dk D] ++ zX) ad M49 F49 hL49 (by omega) (k12 : Int) ⟨by omega, by omega⟩ (V (96 + 47 * (k12 : Int) + 0)) hr45 (zpl_at hL.id ⟨by omega, by omega⟩) hst) ks_L_numberOf zk_984 rfl hl.1 rfl (Nat.le_of_ble_eq_true rfl) (by decide) ⟨by show _ ≤ 468; omega, by show _ ≤ 3658; omega⟩ dL_messages_43 (fun k51 M51 F51 H locs hr51 hp51 Wd => ?_)
        obtain ⟨rfl, hL51⟩ := hp51
        refine z_istore C0 hl [(7, .int (zI (V (96 + 47 * (k12 : Int) + 3)))), (6, .int (zI (V (96 + 47 * (k12 : Int) + 5)))), (5, .int (zI (V (96 + 47 * (k12 : Int) + 4)))), (4, .int (zI (V (96 + 47 * (k12 : Int) + 0)))), (0, .ref (ad 0)), (1, .int (zI (V 2))), (2, .ref dk), (3, .int (zI (k12 : Int)))] (by decide) rfl dL_messages_46 (fun ls hl => ?_)
        refine lb_new (rest := []) C0 Wd hl.1 (Nat.le_of_ble_eq_true rfl) ⟨by decide, by decide⟩ ⟨by show _ ≤ 468; omega, by show _ ≤ 3658; omega⟩ dL_messages_48 dL_messages_51 dL_messages_52 (fun ab52 Mb52 Fb52 H locs hN52 hT52 Wd => ?_)
        refine z_iload C0 hl 3 rfl dL_messages_55 ?_
        refine lb_I (x := (V (96 + 47 * (k12 : Int) + 0))) (rest := []) C0 Wd hN52 hT52 ⟨by omega, by omega⟩ (by simp only [List.length_append, List.length_map, List.length_cons, List.length_nil]; omega) zk_1291 hl.1 (Nat.le_of_ble_eq_true rfl) ⟨by decide, by decide⟩ ⟨by show _ ≤ 468; omega, by show _ ≤ 3658; omega⟩ dL_messages_57 (fun Mb53 Fb53 H locs hN53 hT53 Wd => ?_)
        refine z_ldcrw (tx := ":") (a := g.2.2.2 40) C0 (zc_r C0 (q := ("DrumWarrenLaw", 290, ":", 40)) (by decide +kernel)) dL_messages_60 ?_
        refine lb_S (q := (g.2.2.2 40, g.2.2.2 80, [58])) (rest := []) C0 Wd hN53 hT53 (zc_tx (c := (40, 80, [58])) (by decide +kernel)) (show zLt ([58] : List Int32) from ⟨by decide, by decide⟩) (by simp only [List.length_append, List.length_map, List.length_cons, List.length_nil]; omega) zk_1293 hl.1 (Nat.le_of_ble_eq_true rfl) ⟨by decide, by decide⟩ ⟨by show _ ≤ 468; omega, by show _ ≤ 3658; omega⟩ dL_messages_63 (fun Mb54 Fb54 H locs hN54 hT54 Wd => ?_)
        refine z_aload_n C0 hl 4 rfl dL_messages_66 ?_
        refine z_iload C0 hl 3 rfl dL_messages_67 ?_
        refine z_invQi (As := [.int (zI (V (96 + 47 * (k12 : Int) + 0)))]) (rest := [.ref (ab52 396)]) C0 Wd hst (hv_sender l g (([dcl g dk D] ++ zX) ++ wl g zWn ab52 Mb54 Fb54) ad M51 F51 hL51 (V (96 + 47 * (k12 : Int) + 0)) hr45 (zpl_n1 hL.id ⟨by omega, by omega⟩) ) kv_X11_sender zN0 (zE_8 zK0) rfl zk_902 rfl hl.1 rfl (Nat.le_of_ble_eq_true rfl) (by decide) ⟨by show _ ≤ 468; omega, by show _ ≤ 3658; omega⟩ dL_messages_69 (fun k55 M55 F55 H locs hr55 hp55 Wd => ?_)
        obtain ⟨rfl, hQ55⟩ := hp55
        have hL55 := hQ55.1
        obtain ⟨he56, hr55⟩ : (V (96 + 47 * (zpl (V (96 + 47 * (k12 : Int) + 0)) V) + 1)) = (V (96 + 47 * (k12 : Int) + 1)) ∧ zR (V (96 + 47 * (k12 : Int) + 1)) := (fun q => ⟨q, q ▸ hr55⟩) (by rw [zpl_at hL.id ⟨by omega, by omega⟩])
        refine z_top (congrArg zI he56) ?_
        clear he56
        refine lb_I (x := (V (96 + 47 * (k12 : Int) + 1))) (rest := []) C0 Wd hN54 hT54 ⟨by omega, by omega⟩ (by simp only [List.length_append, List.length_map, List.length_cons, List.length_nil]; omega) zk_1291 hl.1 (Nat.le_of_ble_eq_true rfl) ⟨by decide, by decide⟩ ⟨by show _ ≤ 468; omega, by show _ ≤ 3658; omega⟩ dL_messages_72 (fun Mb57 Fb57 H locs hN57 hT57 Wd => ?_)
        refine z_ldcrw (tx := ">") (a := g.2.2.2 41) C0 (zc_r C0 (q := ("DrumWarrenLaw", 295, ">", 41)) (by decide +kernel)) dL_messages_75 ?_
        refine lb_S (q := (g.2.2.2 41, g.2.2.2 81, [62])) (rest := []) C0 Wd hN57 hT57 (zc_tx (c := (41, 81, [62])) (by decide +kernel)) (show zLt ([62] : List Int32) from ⟨by decide, by decide⟩) (by simp only [List.length_append, List.length_map, List.length_cons, List.length_nil]; omega) zk_1293 hl.1 (Nat.le_of_ble_eq_true rfl) ⟨by decide, by decide⟩ ⟨by show _ ≤ 468; omega, by show _ ≤ 3658; omega⟩ dL_messages_78 (fun Mb58 Fb58 H locs hN58 hT58 Wd => ?_)
        refine z_aload_n C0 hl 4 rfl dL_messages_81 ?_
        refine z_iload C0 hl 3 rfl dL_messages_82 ?_
        refine z_invQi (As := [.int (zI (V (96 + 47 * (k12 : Int) + 0)))]) (rest := [.ref (ab52 396)]) C0 Wd hst (hv_receiver l g (([dcl g dk D] ++ zX) ++ wl g zWn ab52 Mb58 Fb58) ad M55 F55 hL55 (V (96 + 47 * (k12 : Int) + 0)) hr45 (zpl_n1 hL.id ⟨by omega, by omega⟩) ) kv_X11_receiver zN0 (zE_8 zK0) rfl zk_1295 rfl hl.1 rfl (Nat.le_of_ble_eq_true rfl) (by decide) ⟨by show _ ≤ 468; omega, by show _ ≤ 3658; omega⟩ dL_messages_84 (fun k59 M59 F59 H locs hr59 hp59 Wd => ?_)
        obtain ⟨rfl, hQ59⟩ := hp59
        have hL59 := hQ59.1
        obtain ⟨he60, hr59⟩ : (V (96 + 47 * (zpl (V (96 + 47 * (k12 : Int) + 0)) V) + 2)) = (V (96 + 47 * (k12 : Int) + 2)) ∧ zR (V (96 + 47 * (k12 : Int) + 2)) := (fun q => ⟨q, q ▸ hr59⟩) (by rw [zpl_at hL.id ⟨by omega, by omega⟩])
        refine z_top (congrArg zI he60) ?_
        clear he60
        refine lb_I (x := (V (96 + 47 * (k12 : Int) + 2))) (rest := []) C0 Wd hN58 hT58 ⟨by omega, by omega⟩ (by simp only [List.length_append, List.length_map, List.length_cons, List.length_nil]; omega) zk_1291 hl.1 (Nat.le_of_ble_eq_true rfl) ⟨by decide, by decide⟩ ⟨by show _ ≤ 468; omega, by show _ ≤ 3658; omega⟩ dL_messages_87 (fun Mb61 Fb61 H locs hN61 hT61 Wd => ?_)
        refine z_ldcrw (tx := "=") (a := g.2.2.2 42) C0 (zc_r C0 (q := ("DrumWarrenLaw", 297, "=", 42)) (by decide +kernel)) dL_messages_90 ?_
        refine lb_S (q := (g.2.2.2 42, g.2.2.2 82, [61])) (rest := []) C0 Wd hN61 hT61 (zc_tx (c := (42, 82, [61])) (by decide +kernel)) (show zLt ([61] : List Int32) from ⟨by decide, by decide⟩) (by simp only [List.length_append, List.length_map, List.length_cons, List.length_nil]; omega) zk_1293 hl.1 (Nat.le_of_ble_eq_true rfl) ⟨by decide, by decide⟩ ⟨by show _ ≤ 468; omega, by show _ ≤ 3658; omega⟩ dL_messages_93 (fun Mb62 Fb62 H locs hN62 hT62 Wd => ?_)
        refine z_iload C0 hl 0 rfl dL_messages_96 ?_
        refine lb_I (x := (V (96 + 47 * (k12 : Int) + 3))) (rest := []) C0 Wd hN62 hT62 ⟨by omega, by omega⟩ (by simp only [List.length_append, List.length_map, List.length_cons, List.length_nil]; omega) zk_1291 hl.1 (Nat.le_of_ble_eq_true rfl) ⟨by decide, by decide⟩ ⟨by show _ ≤ 468; omega, by show _ ≤ 3658; omega⟩ dL_messages_98 (fun Mb63 Fb63 H locs hN63 hT63 Wd => ?_)
        refine z_aload_n C0 hl 4 rfl dL_messages_101 ?_
        refine z_iload C0 hl 3 rfl dL_messages_102 ?_
        refine z_invQi (As := [.int (zI (V (96 + 47 * (k12 : Int) + 0)))]) (rest := [.ref (ab52 396)]) C0 Wd hst (hv_state l g (([dcl g dk D] ++ zX) ++ wl g zWn ab52 Mb63 Fb63) ad M59 F59 hL59 (V (96 + 47 * (k12 : Int) + 0)) hr45 (zpl_n1 hL.id ⟨by omega, by omega⟩) ) kv_X11_state zN0 (zE_8 zK0) rfl zk_886 rfl hl.1 rfl (Nat.le_of_ble_eq_true rfl) (by decide) ⟨by show _ ≤ 468; omega, by show _ ≤ 3658; omega⟩ dL_messages_104 (fun k64 M64 F64 H locs hr64 hp64 Wd => ?_)
        obtain ⟨rfl, hQ64⟩ := hp64
        have hL64 := hQ64.1
        obtain ⟨he65, hr64⟩ : (V (96 + 47 * (zpl (V (96 + 47 * (k12 : Int) + 0)) V) + 4)) = (V (96 + 47 * (k12 : Int) + 4)) ∧ zR (V (96 + 47 * (k12 : Int) + 4)) := (fun q => ⟨q, q ▸ hr64⟩) (by rw [zpl_at hL.id ⟨by omega, by omega⟩])
        refine z_top (congrArg zI he65) ?_
        clear he65
        refine lb_C (x := (V (96 + 47 * (k12 : Int) + 4))) (rest := []) C0 Wd hN63 hT63 ⟨by omega, by omega⟩ (by simp only [List.length_append, List.length_map, List.length_cons, List.length_nil]; omega) zk_1300 hl.1 (Nat.le_of_ble_eq_true rfl) ⟨by decide, by decide⟩ ⟨by show _ ≤ 468; omega, by show _ ≤ 3658; omega⟩ dL_messages_107 (fun Mb66 Fb66 H locs hN66 hT66 Wd => ?_)
        refine z_ldcrw (tx := "!!!") (a := g.2.2.2 43) C0 (zc_r C0 (q := ("DrumWarrenLaw", 302, "!!!", 43)) (by decide +kernel)) dL_messages_110 ?_
        refine z_iconst C0 dL_messages_113 ?_
        refine z_iload C0 hl 1 rfl dL_messages_114 ?_
        obtain ⟨n67, hn67⟩ : ∃ n : Nat, (V (96 + 47 * (k12 : Int) + 5)) = (n : Int) := ⟨((V (96 + 47 * (k12 : Int) + 5))).toNat, by omega⟩
        refine z_top (congrArg zI hn67) ?_
        refine lb_sub n67 (by omega) (rest := [.ref (ab52 396)]) C0 Wd hl.1 (Nat.le_of_ble_eq_true rfl) ⟨by decide, by decide⟩ ⟨by show _ ≤ 468; omega, by show _ ≤ 3658; omega⟩ dL_messages_116 (fun q67 w67 H locs hqe67 hqr67 Wd => ?_)
        replace Wd := zW_perm (X := ((w67 ++ ([dcl g dk D] ++ zX)) ++ wl g zWn ab52 Mb66 Fb66)) Wd (List.Perm.of_eq (List.append_assoc _ _ _))
        have hql67 : zLt q67.2.2 := by rw [hqe67]; exact ⟨by rw [List.length_replicate]; omega, fun b hb => by rw [(List.mem_replicate.mp hb).2]; decide⟩
        have hqb67 : q67.2.2.map Int32.toInt = List.replicate n67 33 := by rw [hqe67, List.map_replicate]; rfl
        refine lb_S (q := q67) (rest := []) C0 Wd hN66 hT66 (hqr67.mono (fun x hx => List.mem_append_right _ (List.mem_append_left _ hx))) hql67 (by rw [hqe67]; simp only [List.length_append, List.length_map, List.length_cons, List.length_nil, List.length_replicate]; omega) zk_1293 hl.1 (Nat.le_of_ble_eq_true rfl) ⟨by decide, by decide⟩ ⟨by show _ ≤ 468; omega, by show _ ≤ 3658; omega⟩ dL_messages_119 (fun Mb68 Fb68 H locs hN68 hT68 Wd => ?_)
        replace hT68 : zTx Mb68 ((zmt V (k12 : Int))) := by
                  have e9 : [] ++ zdgs (V (96 + 47 * (k12 : Int) + 0)) ++ ([58] : List Int32).map Int32.toInt ++ zdgs (V (96 + 47 * (k12 : Int) + 1)) ++ ([62] : List Int32).map Int32.toInt ++ zdgs (V (96 + 47 * (k12 : Int) + 2)) ++ ([61] : List Int32).map Int32.toInt ++ zdgs (V (96 + 47 * (k12 : Int) + 3)) ++ [(V (96 + 47 * (k12 : Int) + 4))] ++ (q67.2.2 : List Int32).map Int32.toInt = (zmt V (k12 : Int)) := (by rw [hqb67]; unfold zmt; rw [show (V (96 + 47 * (k12 : Int) + 5)).toNat = n67 by omega]; rfl)
                  rw [e9] at hT68
                  exact hT68
        refine lb_T (rest := []) C0 Wd hN68 hT68 (by unfold zmt; simp only [List.length_append, List.length_cons, List.length_nil, List.length_replicate]; omega) (zmt_b hL.iv (by omega) ⟨by omega, by omega⟩) zk_1330 hl.1 (Nat.le_of_ble_eq_true rfl) ⟨by decide, by decide⟩ ⟨by show _ ≤ 468; omega, by show _ ≤ 3658; omega⟩ dL_messages_122 (fun q69 w69 H locs hqe69 hqr69 Wd => ?_)
        have hqb69 : q69.2.2.map Int32.toInt = (zmt V (k12 : Int)) := by rw [hqe69]; exact zI_map (zmt_b hL.iv (by omega) ⟨by omega, by omega⟩)
        have hql69 : zLt q69.2.2 := by rw [hqe69]; exact zLt_map (zmt_b hL.iv (by omega) ⟨by omega, by omega⟩) (by have h7 : ((zmt V (k12 : Int))).length < 16 := (by unfold zmt; simp only [List.length_append, List.length_cons, List.length_nil, List.length_replicate]; omega); omega)
        refine z_astore C0 hl [(8, .ref q69.1), (7, .int (zI (V (96 + 47 * (k12 : Int) + 3)))), (6, .int (zI (V (96 + 47 * (k12 : Int) + 5)))), (5, .int (zI (V (96 + 47 * (k12 : Int) + 4)))), (4, .int (zI (V (96 + 47 * (k12 : Int) + 0)))), (0, .ref (ad 0)), (1, .int (zI (V 2))), (2, .ref dk), (3, .int (zI (k12 : Int)))] (by decide) rfl dL_messages_125 (fun ls hl => ?_)
        have jn143 : ∀ (M8143 F8143 : zMem) (hL8143 : zLw t many V U M8143 F8143) (H : Heap) (locs : List Loc) (ls : Array Slot) (Wd : zW g (zA (0, 398, zX) ad s.heap.size) s.heap (0, 398, (w69 ++ (w67 ++ ([dcl g dk D] ++ zX)))) ad M8143 F8143 H locs) (hl : lv_has ls 10 [(0, .ref (ad 0)), (1, .int (zI (V 2))), (2, .ref dk), (3, .int (zI (k12 : Int))), (4, .int (zI (V (96 + 47 * (k12 : Int) + 0)))), (5, .int (zI (V (96 + 47 * (k12 : Int) + 4)))), (6, .int (zI (V (96 + 47 * (k12 : Int) + 5)))), (7, .int (zI (V (96 + 47 * (k12 : Int) + 3)))), (8, .ref q69.1)]), W p l e (zrm 14 468 3658) s m args below meth c H locs (57 * k12 + 32) (448 * k12 + 300) (zMQ below g (0, 398, zX) ad (zPi (fun k M' F' => k = 1 ∧ zLw t many V U M' F')) args s 468 3658) (F0 m 143 ls []) := by
          intro M8143 F8143 hL8143 H locs ls Wd hl
          refine z_iload C0 hl 7 rfl dL_messages_143 ?_
          refine z_bipush C0 dL_messages_145 (by decide) ?_
          refine z_icmp_gt C0 (tgt := 180) hr51 (zR_mk (by decide) (by decide)) dL_messages_147 (by decide) (fun h9 => (by exfalso; omega)) (fun c70 => ?_)
          refine z_aload_n C0 hl 0 rfl dL_messages_150 ?_
          refine z_aload_n C0 hl 0 rfl dL_messages_151 ?_
          refine z_iload C0 hl 4 rfl dL_messages_152 ?_
          refine z_invSH (As := [.ref (ad 0), .int (zI (V (96 + 47 * (k12 : Int) + 0)))]) (rest := [.ref (ad 0)]) C0 Wd hst (hq_writeMessage l g (w69 ++ (w67 ++ ([dcl g dk D] ++ zX))) ad M8143 F8143 hL8143 (V (96 + 47 * (k12 : Int) + 0)) hr45 (by omega)) hs_writeMessage zk_987 rfl hl.1 rfl (Nat.le_of_ble_eq_true rfl) (by decide) ⟨by show _ ≤ 468; omega, by show _ ≤ 3658; omega⟩ dL_messages_154 (fun k71 M71 F71 H locs hr71 hp71 Wd => ?_)
          obtain ⟨-, rfl, hX71, hL71⟩ := hp71.resolve_right (fun q => absurd q.1 (zpl_n1 hL.id ⟨by omega, by omega⟩))
          rw [zpl_at hL.id ⟨by omega, by omega⟩] at hX71 hr71
          rw [zpl_at hL.id ⟨by omega, by omega⟩]
          refine z_aload C0 hl 8 rfl dL_messages_157 ?_
          refine z_invT (q := q69) (w2 := w69) (As := [.ref (ad 0), .int (zI ((zmt V (k12 : Int)).length : Int)), .ref q69.1]) (rest := []) C0 Wd (lw_spells l g (w67 ++ ([dcl g dk D] ++ zX)) ad M71 F71 hL71 q69 hql69 ((zmt V (k12 : Int)).length : Int) hr71 (by have e5 := congrArg List.length hqb69; rw [List.length_map] at e5; omega) (by rw [hqb69]; exact hX71) hst) ks_L_spells hqr69 zk_1331 rfl hl.1 rfl (Nat.le_of_ble_eq_true rfl) (by decide) ⟨by show _ ≤ 468; omega, by show _ ≤ 3658; omega⟩ dL_messages_159 (z_kki (fun k72 M72 F72 H locs hr72 hp72 Wd => ?_))
          obtain ⟨rfl, hL72⟩ := hp72
          refine z_if_eq C0 (tgt := 180) (zR_mk (by decide) (by decide)) dL_messages_162 (by decide) (fun h => absurd h (by decide)) (fun _ => ?_)
          replace Wd := zW_sub (X := ([dcl g dk D] ++ zX)) Wd (((List.Sublist.refl [dcl g dk D]).append (List.Sublist.refl _)).trans (List.sublist_append_right w67 _))
          refine z_aload_n C0 hl 0 rfl dL_messages_165 ?_
          refine z_iload C0 hl 4 rfl dL_messages_166 ?_
          refine z_invSH (As := [.ref (ad 0), .int (zI (V (96 + 47 * (k12 : Int) + 0)))]) (rest := []) C0 Wd hst (hq_sender l g ([dcl g dk D] ++ zX) ad M72 F72 hL72 (V (96 + 47 * (k12 : Int) + 0)) hr45 ) hs_sender zk_899 rfl hl.1 rfl (Nat.le_of_ble_eq_true rfl) (by decide) ⟨by show _ ≤ 468; omega, by show _ ≤ 3658; omega⟩ dL_messages_168 (fun k74 M74 F74 H locs hr74 hp74 Wd => ?_)
          obtain ⟨rfl, hQ74⟩ := hp74
          have hL74 := hQ74.1
          obtain ⟨he75, hr74⟩ : (qMs V 1 (V (96 + 47 * (k12 : Int) + 0))) = (V (96 + 47 * (k12 : Int) + 1)) ∧ zR (V (96 + 47 * (k12 : Int) + 1)) := (fun q => ⟨q, q ▸ hr74⟩) (qMs_at hL ⟨by omega, by omega⟩)
          refine z_top (congrArg zI he75) ?_
          clear he75
          refine z_aload_n C0 hl 0 rfl dL_messages_171 ?_
          refine z_iload C0 hl 4 rfl dL_messages_172 ?_
          refine z_invSH (As := [.ref (ad 0), .int (zI (V (96 + 47 * (k12 : Int) + 0)))]) (rest := [.int (zI (V (96 + 47 * (k12 : Int) + 1)))]) C0 Wd hst (hq_receiver l g ([dcl g dk D] ++ zX) ad M74 F74 hL74 (V (96 + 47 * (k12 : Int) + 0)) hr45 ) hs_receiver zk_1346 rfl hl.1 rfl (Nat.le_of_ble_eq_true rfl) (by decide) ⟨by show _ ≤ 468; omega, by show _ ≤ 3658; omega⟩ dL_messages_174 (fun k76 M76 F76 H locs hr76 hp76 Wd => ?_)
          obtain ⟨rfl, hQ76⟩ := hp76
          have hL76 := hQ76.1
          obtain ⟨he77, hr76⟩ : (qMs V 2 (V (96 + 47 * (k12 : Int) + 0))) = (V (96 + 47 * (k12 : Int) + 2)) ∧ zR (V (96 + 47 * (k12 : Int) + 2)) := (fun q => ⟨q, q ▸ hr76⟩) (qMs_at hL ⟨by omega, by omega⟩)
          refine z_top (congrArg zI he77) ?_
          clear he77
          refine z_icmp_ne C0 (tgt := 182) hr74 hr76 dL_messages_177 (by decide) (fun c78 => ?_) (fun h9 => (by exfalso; exact hsr9 h9))
          have jn194 : ∀ (M8194 F8194 : zMem) (hL8194 : zLw t many V U M8194 F8194) (H : Heap) (locs : List Loc) (ls : Array Slot) (Wd : zW g (zA (0, 398, zX) ad s.heap.size) s.heap (0, 398, ([dcl g dk D] ++ zX)) ad M8194 F8194 H locs) (hl : lv_has ls 10 [(0, .ref (ad 0)), (1, .int (zI (V 2))), (2, .ref dk), (3, .int (zI (k12 : Int))), (4, .int (zI (V (96 + 47 * (k12 : Int) + 0)))), (5, .int (zI (V (96 + 47 * (k12 : Int) + 4)))), (6, .int (zI (V (96 + 47 * (k12 : Int) + 5)))), (7, .int (zI (V (96 + 47 * (k12 : Int) + 3)))), (8, .ref q69.1)]), W p l e (zrm 14 468 3658) s m args below meth c H locs (57 * k12 + 52) (448 * k12 + 420) (zMQ below g (0, 398, zX) ad (zPi (fun k M' F' => k = 1 ∧ zLw t many V U M' F')) args s 468 3658) (F0 m 194 ls [.int (zI (zb (V (96 + 47 * (k12 : Int) + 4) = 100)))]) := by
            intro M8194 F8194 hL8194 H locs ls Wd hl
            refine z_aload_n C0 hl 0 rfl dL_messages_194 ?_
            refine z_iload C0 hl 4 rfl dL_messages_195 ?_
            refine z_invSH (As := [.ref (ad 0), .int (zI (V (96 + 47 * (k12 : Int) + 0)))]) (rest := [.int (zI (zb (V (96 + 47 * (k12 : Int) + 4) = 100)))]) C0 Wd hst (hq_beats l g ([dcl g dk D] ++ zX) ad M8194 F8194 hL8194 (V (96 + 47 * (k12 : Int) + 0)) hr45 ) hs_beats zk_1349 rfl hl.1 rfl (Nat.le_of_ble_eq_true rfl) (by decide) ⟨by show _ ≤ 468; omega, by show _ ≤ 3658; omega⟩ dL_messages_197 (fun k79 M79 F79 H locs hr79 hp79 Wd => ?_)
            obtain ⟨rfl, hQ79⟩ := hp79
            have hL79 := hQ79.1
            obtain ⟨he80, hr79⟩ : (qMs V 6 (V (96 + 47 * (k12 : Int) + 0))) = (V (96 + 47 * (k12 : Int) + 6)) ∧ zR (V (96 + 47 * (k12 : Int) + 6)) := (fun q => ⟨q, q ▸ hr79⟩) (qMs_at hL ⟨by omega, by omega⟩)
            refine z_top (congrArg zI he80) ?_
            clear he80
            have jn208 : ∀ (M8208 F8208 : zMem) (hL8208 : zLw t many V U M8208 F8208) (H : Heap) (locs : List Loc) (ls : Array Slot) (Wd : zW g (zA (0, 398, zX) ad s.heap.size) s.heap (0, 398, ([dcl g dk D] ++ zX)) ad M8208 F8208 H locs) (hl : lv_has ls 10 [(0, .ref (ad 0)), (1, .int (zI (V 2))), (2, .ref dk), (3, .int (zI (k12 : Int))), (4, .int (zI (V (96 + 47 * (k12 : Int) + 0)))), (5, .int (zI (V (96 + 47 * (k12 : Int) + 4)))), (6, .int (zI (V (96 + 47 * (k12 : Int) + 5)))), (7, .int (zI (V (96 + 47 * (k12 : Int) + 3)))), (8, .ref q69.1)]), W p l e (zrm 14 468 3658) s m args below meth c H locs (57 * k12 + 53) (448 * k12 + 426) (zMQ below g (0, 398, zX) ad (zPi (fun k M' F' => k = 1 ∧ zLw t many V U M' F')) args s 468 3658) (F0 m 208 ls [.int (zI (zb (0 < V (96 + 47 * (k12 : Int) + 6)))), .int (zI (zb (V (96 + 47 * (k12 : Int) + 4) = 100)))]) := by
              intro M8208 F8208 hL8208 H locs ls Wd hl
              refine z_icmp_ne C0 (tgt := 247) (zb_R _) (zb_R _) dL_messages_208 (by decide) (fun h9 => (by exfalso; exact h9 (zb_iff ⟨fun q => by have h7 : (1 : Int) ≤ _ := hsb9.1 q; omega, fun q => Decidable.byContradiction (fun z => by have := hsb9.2 z; omega)⟩))) (fun c81 => ?_)
              refine z_aload_n C0 hl 0 rfl dL_messages_211 ?_
              refine z_iload C0 hl 4 rfl dL_messages_212 ?_
              refine z_invSH (As := [.ref (ad 0), .int (zI (V (96 + 47 * (k12 : Int) + 0)))]) (rest := []) C0 Wd hst (hq_beats l g ([dcl g dk D] ++ zX) ad M8208 F8208 hL8208 (V (96 + 47 * (k12 : Int) + 0)) hr45 ) hs_beats zk_1349 rfl hl.1 rfl (Nat.le_of_ble_eq_true rfl) (by decide) ⟨by show _ ≤ 468; omega, by show _ ≤ 3658; omega⟩ dL_messages_214 (fun k82 M82 F82 H locs hr82 hp82 Wd => ?_)
              obtain ⟨rfl, hQ82⟩ := hp82
              have hL82 := hQ82.1
              obtain ⟨he83, hr82⟩ : (qMs V 6 (V (96 + 47 * (k12 : Int) + 0))) = (V (96 + 47 * (k12 : Int) + 6)) ∧ zR (V (96 + 47 * (k12 : Int) + 6)) := (fun q => ⟨q, q ▸ hr82⟩) (qMs_at hL ⟨by omega, by omega⟩)
              refine z_top (congrArg zI he83) ?_
              clear he83
              refine z_iconst C0 dL_messages_217 ?_
              refine z_icmp_gt C0 (tgt := 247) hr82 (zR_mk (by decide) (by decide)) dL_messages_218 (by decide) (fun h9 => (by exfalso; have e1 := htd9; have e2 := hsb9.2; omega)) (fun c84 => ?_)
              have jn233 : ∀ (M8233 F8233 : zMem) (hL8233 : zLw t many V U M8233 F8233) (H : Heap) (locs : List Loc) (ls : Array Slot) (Wd : zW g (zA (0, 398, zX) ad s.heap.size) s.heap (0, 398, ([dcl g dk D] ++ zX)) ad M8233 F8233 H locs) (hl : lv_has ls 10 [(0, .ref (ad 0)), (1, .int (zI (V 2))), (2, .ref dk), (3, .int (zI (k12 : Int))), (4, .int (zI (V (96 + 47 * (k12 : Int) + 0)))), (5, .int (zI (V (96 + 47 * (k12 : Int) + 4)))), (6, .int (zI (V (96 + 47 * (k12 : Int) + 5)))), (7, .int (zI (V (96 + 47 * (k12 : Int) + 3)))), (8, .ref q69.1)]), W p l e (zrm 14 468 3658) s m args below meth c H locs (57 * k12 + 54) (448 * k12 + 432) (zMQ below g (0, 398, zX) ad (zPi (fun k M' F' => k = 1 ∧ zLw t many V U M' F')) args s 468 3658) (F0 m 233 ls [.int (zI (zb (V (96 + 47 * (k12 : Int) + 4) = 108)))]) := by
                intro M8233 F8233 hL8233 H locs ls Wd hl
                refine z_iload C0 hl 6 rfl dL_messages_233 ?_
                have jn244 : ∀ (M8244 F8244 : zMem) (hL8244 : zLw t many V U M8244 F8244) (H : Heap) (locs : List Loc) (ls : Array Slot) (Wd : zW g (zA (0, 398, zX) ad s.heap.size) s.heap (0, 398, ([dcl g dk D] ++ zX)) ad M8244 F8244 H locs) (hl : lv_has ls 10 [(0, .ref (ad 0)), (1, .int (zI (V 2))), (2, .ref dk), (3, .int (zI (k12 : Int))), (4, .int (zI (V (96 + 47 * (k12 : Int) + 0)))), (5, .int (zI (V (96 + 47 * (k12 : Int) + 4)))), (6, .int (zI (V (96 + 47 * (k12 : Int) + 5)))), (7, .int (zI (V (96 + 47 * (k12 : Int) + 3)))), (8, .ref q69.1)]), W p l e (zrm 14 468 3658) s m args below meth c H locs (57 * k12 + 54) (448 * k12 + 432) (zMQ below g (0, 398, zX) ad (zPi (fun k M' F' => k = 1 ∧ zLw t many V U M' F')) args s 468 3658) (F0 m 244 ls [.int (zI (zb (V (96 + 47 * (k12 : Int) + 5) = 3))), .int (zI (zb (V (96 + 47 * (k12 : Int) + 4) = 108)))]) := by
                  intro M8244 F8244 hL8244 H locs ls Wd hl
                  refine z_icmp_eq C0 (tgt := 249) (zb_R _) (zb_R _) dL_messages_244 (by decide) (fun c85 => ?_) (fun h9 => (by exfalso; exact h9 (zb_iff hsl9)))
                  refine z_aload_n C0 hl 2 rfl dL_messages_249 ?_
                  refine z_aload_n C0 hl 0 rfl dL_messages_250 ?_
                  refine z_aload_n C0 hl 0 rfl dL_messages_251 ?_
                  refine z_iload C0 hl 4 rfl dL_messages_252 ?_
                  refine z_invQi (As := [.int (zI (V (96 + 47 * (k12 : Int) + 0)))]) (rest := [.ref (ad 0), .ref dk]) C0 Wd hst (hv_sender l g ([dcl g dk D] ++ zX) ad M8244 F8244 hL8244 (V (96 + 47 * (k12 : Int) + 0)) hr45 (zpl_n1 hL.id ⟨by omega, by omega⟩) ) kv_X11_sender zN0 (zE_8 zK0) rfl zk_902 rfl hl.1 rfl (Nat.le_of_ble_eq_true rfl) (by decide) ⟨by show _ ≤ 468; omega, by show _ ≤ 3658; omega⟩ dL_messages_254 (fun k86 M86 F86 H locs hr86 hp86 Wd => ?_)
                  obtain ⟨rfl, hQ86⟩ := hp86
                  have hL86 := hQ86.1
                  obtain ⟨he87, hr86⟩ : (V (96 + 47 * (zpl (V (96 + 47 * (k12 : Int) + 0)) V) + 1)) = (V (96 + 47 * (k12 : Int) + 1)) ∧ zR (V (96 + 47 * (k12 : Int) + 1)) := (fun q => ⟨q, q ▸ hr86⟩) (by rw [zpl_at hL.id ⟨by omega, by omega⟩])
                  refine z_top (congrArg zI he87) ?_
                  clear he87
                  refine z_invQi (As := [.int (zI (V (96 + 47 * (k12 : Int) + 1)))]) (rest := [.ref dk]) C0 Wd hst (hv_chamberOf l g ([dcl g dk D] ++ zX) ad M86 F86 hL86 (V (96 + 47 * (k12 : Int) + 1)) hr86 ⟨by omega, by omega⟩ ) kv_X11_chamberOf zN0 (zE_8 zK0) rfl zk_939 rfl hl.1 rfl (Nat.le_of_ble_eq_true rfl) (by decide) ⟨by show _ ≤ 468; omega, by show _ ≤ 3658; omega⟩ dL_messages_257 (fun k88 M88 F88 H locs hr88 hp88 Wd => ?_)
                  obtain ⟨rfl, hQ88⟩ := hp88
                  have hL88 := hQ88.1
                  have hch9 := (hL.iv.2.2.2.2.2.1 (V (96 + 47 * (k12 : Int) + 1)) (by omega) (by omega)).1
                  refine z_dup2 C0 rfl rfl dL_messages_260 ?_
                  refine dr_ald C0 Wd hD9 (by omega) (by omega) dL_messages_261 ?_
                  have jn274 : ∀ (M8274 F8274 : zMem) (hL8274 : zLw t many V U M8274 F8274) (H : Heap) (locs : List Loc) (ls : Array Slot) (Wd : zW g (zA (0, 398, zX) ad s.heap.size) s.heap (0, 398, ([dcl g dk D] ++ zX)) ad M8274 F8274 H locs) (hl : lv_has ls 10 [(0, .ref (ad 0)), (1, .int (zI (V 2))), (2, .ref dk), (3, .int (zI (k12 : Int))), (4, .int (zI (V (96 + 47 * (k12 : Int) + 0)))), (5, .int (zI (V (96 + 47 * (k12 : Int) + 4)))), (6, .int (zI (V (96 + 47 * (k12 : Int) + 5)))), (7, .int (zI (V (96 + 47 * (k12 : Int) + 3)))), (8, .ref q69.1)]), W p l e (zrm 14 468 3658) s m args below meth c H locs (57 * k12 + 56) (448 * k12 + 444) (zMQ below g (0, 398, zX) ad (zPi (fun k M' F' => k = 1 ∧ zLw t many V U M' F')) args s 468 3658) (F0 m 274 ls [.int (zI (zb (V (96 + 47 * (k12 : Int) + 4) = 100))), .int (zI (D (V (72 + 4 * (V (96 + 47 * (k12 : Int) + 1)) + 0)))), .int (zI (V (72 + 4 * (V (96 + 47 * (k12 : Int) + 1)) + 0))), .ref dk]) := by
                    intro M8274 F8274 hL8274 H locs ls Wd hl
                    have hDb9 := zcnt_bd (P := zDP V (V (72 + 4 * V (96 + 47 * (k12 : Int) + 1) + 0))) k12
                    have hDc9 := hDi (V (72 + 4 * V (96 + 47 * (k12 : Int) + 1) + 0)) (by omega) (by omega)
                    have hbb9 := zb_bd (V (96 + 47 * (k12 : Int) + 4) = 100)
                    refine z_iadd C0 dL_messages_274 ?_
                    refine dr_ast C0 Wd hD9 (by omega) (by omega) (zR_mk (by omega) (by omega)) dL_messages_275 (fun H locs Wd => ?_)
                    have hD8 : ∀ j, zR ((zup D (V (72 + 4 * (V (96 + 47 * (k12 : Int) + 1)) + 0)) ((D (V (72 + 4 * (V (96 + 47 * (k12 : Int) + 1)) + 0))) + zb (V (96 + 47 * (k12 : Int) + 4) = 100))) j) := fun j => by unfold zup; split; exact zR_mk (by omega) (by omega); exact hD9 j
                    have hDi8 : ∀ x, 0 ≤ x → x < 8 → (zup D (V (72 + 4 * (V (96 + 47 * (k12 : Int) + 1)) + 0)) ((D (V (72 + 4 * (V (96 + 47 * (k12 : Int) + 1)) + 0))) + zb (V (96 + 47 * (k12 : Int) + 4) = 100))) x = zcnt (zDP V x) (k12 + 1) := fun x x0 x1 => by
                      show _ = zcnt (zDP V x) k12 + zb (V (96 + 47 * (k12 : Int) + 4) = 100 ∧ zhm V (k12 : Int) = x)
                      by_cases hx : x = V (72 + 4 * V (96 + 47 * (k12 : Int) + 1) + 0)
                      · rw [hx, zup_same, hDc9]
                        congr 1
                        exact zb_iff ⟨fun q => ⟨q, rfl⟩, fun q => q.1⟩
                      · rw [zup_ne hx, hDi x x0 x1, zb_f (fun q => hx q.2.symm)]
                        omega
                    refine z_aload_n C0 hl 0 rfl dL_messages_276 ?_
                    refine z_iload C0 hl 4 rfl dL_messages_277 ?_
                    refine z_invSH (As := [.ref (ad 0), .int (zI (V (96 + 47 * (k12 : Int) + 0)))]) (rest := []) C0 Wd hst (hq_until l g ([dcl g dk (zup D (V (72 + 4 * (V (96 + 47 * (k12 : Int) + 1)) + 0)) ((D (V (72 + 4 * (V (96 + 47 * (k12 : Int) + 1)) + 0))) + zb (V (96 + 47 * (k12 : Int) + 4) = 100)))] ++ zX) ad M8274 F8274 hL8274 (V (96 + 47 * (k12 : Int) + 0)) hr45 (by omega)) hs_until zk_1356 rfl hl.1 rfl (Nat.le_of_ble_eq_true rfl) (by decide) ⟨by show _ ≤ 468; omega, by show _ ≤ 3658; omega⟩ dL_messages_279 (fun k89 M89 F89 H locs hr89 hp89 Wd => ?_)
                    obtain ⟨rfl, hQ89⟩ := hp89
                    have hL89 := hQ89.1
                    refine z_istore C0 hl [(9, .int (zI (qUn V (V (96 + 47 * (k12 : Int) + 0))))), (0, .ref (ad 0)), (1, .int (zI (V 2))), (2, .ref dk), (3, .int (zI (k12 : Int))), (4, .int (zI (V (96 + 47 * (k12 : Int) + 0)))), (5, .int (zI (V (96 + 47 * (k12 : Int) + 4)))), (6, .int (zI (V (96 + 47 * (k12 : Int) + 5)))), (7, .int (zI (V (96 + 47 * (k12 : Int) + 3)))), (8, .ref q69.1)] (by decide) rfl dL_messages_282 (fun ls hl => ?_)
                    have hun9 := qUn_in hL (p := (k12 : Int)) ⟨by omega, by omega⟩
                    refine z_iload C0 hl 6 rfl dL_messages_284 ?_
                    refine z_bipush C0 dL_messages_286 (by decide) ?_
                    refine z_icmp_eq C0 (tgt := 298) hr47 (zR_mk (by decide) (by decide)) dL_messages_288 (by decide) (fun c90 => ?_) (fun c90 => ?_)
                    · skip
                      refine z_iload C0 hl 0 rfl dL_messages_298 ?_
                      refine z_bipush C0 dL_messages_300 (by decide) ?_
                      refine z_icmp_eq C0 (tgt := 330) hr89 (zR_mk (by decide) (by decide)) dL_messages_302 (by decide) (fun c91 => ?_) (fun h9 => (by exfalso; exact h9 (hun9.1 (by omega))))
                      refine z_iinc C0 hl 4 (t := (k12 : Int)) (u := ((k12 : Int) + 1)) rfl (by omega) [(3, .int (zI ((k12 : Int) + 1))), (9, .int (zI (qUn V (V (96 + 47 * (k12 : Int) + 0))))), (0, .ref (ad 0)), (1, .int (zI (V 2))), (2, .ref dk), (4, .int (zI (V (96 + 47 * (k12 : Int) + 0)))), (5, .int (zI (V (96 + 47 * (k12 : Int) + 4)))), (6, .int (zI (V (96 + 47 * (k12 : Int) + 5)))), (7, .int (zI (V (96 + 47 * (k12 : Int) + 3)))), (8, .ref q69.1)] (by decide) rfl dL_messages_330 (fun ls hl => ?_)
                      refine z_goto C0 (tgt := 12) dL_messages_333 (by decide) ?_
                      refine W.widen (k := (57 * (k12 + 1) + 1)) (n := (448 * (k12 + 1) + 8)) (by omega) (by omega) ?_
                      exact ih12 (k12 + 1) (by omega) (zup D (V (72 + 4 * (V (96 + 47 * (k12 : Int) + 1)) + 0)) ((D (V (72 + 4 * (V (96 + 47 * (k12 : Int) + 1)) + 0))) + zb (V (96 + 47 * (k12 : Int) + 4) = 100))) M89 F89 hL89 hD8 hDi8 _ _ _ Wd (lv_sub hl [2, 3, 4, 0] rfl)
                    · skip
                      refine z_iload C0 hl 6 rfl dL_messages_291 ?_
                      refine z_bipush C0 dL_messages_293 (by decide) ?_
                      refine z_icmp_ne C0 (tgt := 308) hr47 (zR_mk (by decide) (by decide)) dL_messages_295 (by decide) (fun c92 => ?_) (fun c92 => ?_)
                      · skip
                        refine z_iload C0 hl 0 rfl dL_messages_308 ?_
                        refine z_bipush C0 dL_messages_310 (by decide) ?_
                        refine z_icmp_eq C0 (tgt := 330) hr89 (zR_mk (by decide) (by decide)) dL_messages_312 (by decide) (fun c93 => ?_) (fun c93 => ?_)
                        · skip
                          refine z_iinc C0 hl 4 (t := (k12 : Int)) (u := ((k12 : Int) + 1)) rfl (by omega) [(3, .int (zI ((k12 : Int) + 1))), (9, .int (zI (qUn V (V (96 + 47 * (k12 : Int) + 0))))), (0, .ref (ad 0)), (1, .int (zI (V 2))), (2, .ref dk), (4, .int (zI (V (96 + 47 * (k12 : Int) + 0)))), (5, .int (zI (V (96 + 47 * (k12 : Int) + 4)))), (6, .int (zI (V (96 + 47 * (k12 : Int) + 5)))), (7, .int (zI (V (96 + 47 * (k12 : Int) + 3)))), (8, .ref q69.1)] (by decide) rfl dL_messages_330 (fun ls hl => ?_)
                          refine z_goto C0 (tgt := 12) dL_messages_333 (by decide) ?_
                          refine W.widen (k := (57 * (k12 + 1) + 1)) (n := (448 * (k12 + 1) + 8)) (by omega) (by omega) ?_
                          exact ih12 (k12 + 1) (by omega) (zup D (V (72 + 4 * (V (96 + 47 * (k12 : Int) + 1)) + 0)) ((D (V (72 + 4 * (V (96 + 47 * (k12 : Int) + 1)) + 0))) + zb (V (96 + 47 * (k12 : Int) + 4) = 100))) M89 F89 hL89 hD8 hDi8 _ _ _ Wd (lv_sub hl [2, 3, 4, 0] rfl)
                        · skip
                          refine z_iload C0 hl 0 rfl dL_messages_315 ?_
                          refine z_iconst C0 dL_messages_317 ?_
                          refine z_icmp_lt C0 (tgt := 328) hr89 (zR_mk (by decide) (by decide)) dL_messages_318 (by decide) (fun h9 => (by exfalso; have := hun9.2 (by omega); omega)) (fun c94 => ?_)
                          refine z_iload C0 hl 0 rfl dL_messages_321 ?_
                          refine z_bipush C0 dL_messages_323 (by decide) ?_
                          refine z_icmp_le C0 (tgt := 330) hr89 (zR_mk (by decide) (by decide)) dL_messages_325 (by decide) (fun c95 => ?_) (fun h9 => (by exfalso; have := hun9.2 (by omega); omega))
                          refine z_iinc C0 hl 4 (t := (k12 : Int)) (u := ((k12 : Int) + 1)) rfl (by omega) [(3, .int (zI ((k12 : Int) + 1))), (9, .int (zI (qUn V (V (96 + 47 * (k12 : Int) + 0))))), (0, .ref (ad 0)), (1, .int (zI (V 2))), (2, .ref dk), (4, .int (zI (V (96 + 47 * (k12 : Int) + 0)))), (5, .int (zI (V (96 + 47 * (k12 : Int) + 4)))), (6, .int (zI (V (96 + 47 * (k12 : Int) + 5)))), (7, .int (zI (V (96 + 47 * (k12 : Int) + 3)))), (8, .ref q69.1)] (by decide) rfl dL_messages_330 (fun ls hl => ?_)
                          refine z_goto C0 (tgt := 12) dL_messages_333 (by decide) ?_
                          refine W.widen (k := (57 * (k12 + 1) + 1)) (n := (448 * (k12 + 1) + 8)) (by omega) (by omega) ?_
                          exact ih12 (k12 + 1) (by omega) (zup D (V (72 + 4 * (V (96 + 47 * (k12 : Int) + 1)) + 0)) ((D (V (72 + 4 * (V (96 + 47 * (k12 : Int) + 1)) + 0))) + zb (V (96 + 47 * (k12 : Int) + 4) = 100))) M89 F89 hL89 hD8 hDi8 _ _ _ Wd (lv_sub hl [2, 3, 4, 0] rfl)
                      · skip
                        refine z_iload C0 hl 0 rfl dL_messages_298 ?_
                        refine z_bipush C0 dL_messages_300 (by decide) ?_
                        refine z_icmp_eq C0 (tgt := 330) hr89 (zR_mk (by decide) (by decide)) dL_messages_302 (by decide) (fun c96 => ?_) (fun h9 => (by exfalso; exact h9 (hun9.1 (by omega))))
                        refine z_iinc C0 hl 4 (t := (k12 : Int)) (u := ((k12 : Int) + 1)) rfl (by omega) [(3, .int (zI ((k12 : Int) + 1))), (9, .int (zI (qUn V (V (96 + 47 * (k12 : Int) + 0))))), (0, .ref (ad 0)), (1, .int (zI (V 2))), (2, .ref dk), (4, .int (zI (V (96 + 47 * (k12 : Int) + 0)))), (5, .int (zI (V (96 + 47 * (k12 : Int) + 4)))), (6, .int (zI (V (96 + 47 * (k12 : Int) + 5)))), (7, .int (zI (V (96 + 47 * (k12 : Int) + 3)))), (8, .ref q69.1)] (by decide) rfl dL_messages_330 (fun ls hl => ?_)
                        refine z_goto C0 (tgt := 12) dL_messages_333 (by decide) ?_
                        refine W.widen (k := (57 * (k12 + 1) + 1)) (n := (448 * (k12 + 1) + 8)) (by omega) (by omega) ?_
                        exact ih12 (k12 + 1) (by omega) (zup D (V (72 + 4 * (V (96 + 47 * (k12 : Int) + 1)) + 0)) ((D (V (72 + 4 * (V (96 + 47 * (k12 : Int) + 1)) + 0))) + zb (V (96 + 47 * (k12 : Int) + 4) = 100))) M89 F89 hL89 hD8 hDi8 _ _ _ Wd (lv_sub hl [2, 3, 4, 0] rfl)
                  refine z_iload C0 hl 5 rfl dL_messages_262 ?_
                  refine z_bipush C0 dL_messages_264 (by decide) ?_
                  refine z_icmp_ne C0 (tgt := 273) hr47 (zR_mk (by decide) (by decide)) dL_messages_266 (by decide) (fun c97 => ?_) (fun c97 => ?_)
                  · skip
                    refine z_iconst C0 dL_messages_273 ?_
                    refine z_top (congrArg zI (show 0 = zb (V (96 + 47 * (k12 : Int) + 4) = 100) from (zb_f (by omega)).symm)) ?_
                    refine W.widen (k := (57 * k12 + 56)) (n := (448 * k12 + 444)) (by omega) (by omega) ?_
                    exact jn274  M88 F88 hL88  _ _ _ Wd (lv_sub hl [0, 1, 2, 3, 4, 5, 6, 7, 8] rfl)
                  · skip
                    refine z_iconst C0 dL_messages_269 ?_
                    refine z_goto C0 (tgt := 274) dL_messages_270 (by decide) ?_
                    refine z_top (congrArg zI (show 1 = zb (V (96 + 47 * (k12 : Int) + 4) = 100) from (zb_t (by omega)).symm)) ?_
                    refine W.widen (k := (57 * k12 + 56)) (n := (448 * k12 + 444)) (by omega) (by omega) ?_
                    exact jn274  M88 F88 hL88  _ _ _ Wd (lv_sub hl [0, 1, 2, 3, 4, 5, 6, 7, 8] rfl)
                refine z_iconst C0 dL_messages_235 ?_
                refine z_icmp_ne C0 (tgt := 243) hr49 (zR_mk (by decide) (by decide)) dL_messages_236 (by decide) (fun c98 => ?_) (fun c98 => ?_)
                · skip
                  refine z_iconst C0 dL_messages_243 ?_
                  refine z_top (congrArg zI (show 0 = zb (V (96 + 47 * (k12 : Int) + 5) = 3) from (zb_f (by omega)).symm)) ?_
                  refine W.widen (k := (57 * k12 + 54)) (n := (448 * k12 + 432)) (by omega) (by omega) ?_
                  exact jn244  M8233 F8233 hL8233  _ _ _ Wd (lv_sub hl [0, 1, 2, 3, 4, 5, 6, 7, 8] rfl)
                · skip
                  refine z_iconst C0 dL_messages_239 ?_
                  refine z_goto C0 (tgt := 244) dL_messages_240 (by decide) ?_
                  refine z_top (congrArg zI (show 1 = zb (V (96 + 47 * (k12 : Int) + 5) = 3) from (zb_t (by omega)).symm)) ?_
                  refine W.widen (k := (57 * k12 + 54)) (n := (448 * k12 + 432)) (by omega) (by omega) ?_
                  exact jn244  M8233 F8233 hL8233  _ _ _ Wd (lv_sub hl [0, 1, 2, 3, 4, 5, 6, 7, 8] rfl)
              refine z_iload C0 hl 5 rfl dL_messages_221 ?_
              refine z_bipush C0 dL_messages_223 (by decide) ?_
              refine z_icmp_ne C0 (tgt := 232) hr47 (zR_mk (by decide) (by decide)) dL_messages_225 (by decide) (fun c99 => ?_) (fun c99 => ?_)
              · skip
                refine z_iconst C0 dL_messages_232 ?_
                refine z_top (congrArg zI (show 0 = zb (V (96 + 47 * (k12 : Int) + 4) = 108) from (zb_f (by omega)).symm)) ?_
                refine W.widen (k := (57 * k12 + 54)) (n := (448 * k12 + 432)) (by omega) (by omega) ?_
                exact jn233  M82 F82 hL82  _ _ _ Wd (lv_sub hl [0, 1, 2, 3, 4, 5, 6, 7, 8] rfl)
              · skip
                refine z_iconst C0 dL_messages_228 ?_
                refine z_goto C0 (tgt := 233) dL_messages_229 (by decide) ?_
                refine z_top (congrArg zI (show 1 = zb (V (96 + 47 * (k12 : Int) + 4) = 108) from (zb_t (by omega)).symm)) ?_
                refine W.widen (k := (57 * k12 + 54)) (n := (448 * k12 + 432)) (by omega) (by omega) ?_
                exact jn233  M82 F82 hL82  _ _ _ Wd (lv_sub hl [0, 1, 2, 3, 4, 5, 6, 7, 8] rfl)
            refine z_if_le C0 (tgt := 207) hr79 dL_messages_200 (by decide) (fun c100 => ?_) (fun c100 => ?_)
            · skip
              refine z_iconst C0 dL_messages_207 ?_
              refine z_top (congrArg zI (show 0 = zb (0 < V (96 + 47 * (k12 : Int) + 6)) from (zb_f (by omega)).symm)) ?_
              refine W.widen (k := (57 * k12 + 53)) (n := (448 * k12 + 426)) (by omega) (by omega) ?_
              exact jn208  M79 F79 hL79  _ _ _ Wd (lv_sub hl [0, 1, 2, 3, 4, 5, 6, 7, 8] rfl)
            · skip
              refine z_iconst C0 dL_messages_203 ?_
              refine z_goto C0 (tgt := 208) dL_messages_204 (by decide) ?_
              refine z_top (congrArg zI (show 1 = zb (0 < V (96 + 47 * (k12 : Int) + 6)) from (zb_t (by omega)).symm)) ?_
              refine W.widen (k := (57 * k12 + 53)) (n := (448 * k12 + 426)) (by omega) (by omega) ?_
              exact jn208  M79 F79 hL79  _ _ _ Wd (lv_sub hl [0, 1, 2, 3, 4, 5, 6, 7, 8] rfl)
          refine z_iload C0 hl 5 rfl dL_messages_182 ?_
          refine z_bipush C0 dL_messages_184 (by decide) ?_
          refine z_icmp_ne C0 (tgt := 193) hr47 (zR_mk (by decide) (by decide)) dL_messages_186 (by decide) (fun c101 => ?_) (fun c101 => ?_)
          · skip
            refine z_iconst C0 dL_messages_193 ?_
            refine z_top (congrArg zI (show 0 = zb (V (96 + 47 * (k12 : Int) + 4) = 100) from (zb_f (by omega)).symm)) ?_
            refine W.widen (k := (57 * k12 + 52)) (n := (448 * k12 + 420)) (by omega) (by omega) ?_
            exact jn194  M76 F76 hL76  _ _ _ Wd (lv_sub hl [0, 1, 2, 3, 4, 5, 6, 7, 8] rfl)
          · skip
            refine z_iconst C0 dL_messages_189 ?_
            refine z_goto C0 (tgt := 194) dL_messages_190 (by decide) ?_
            refine z_top (congrArg zI (show 1 = zb (V (96 + 47 * (k12 : Int) + 4) = 100) from (zb_t (by omega)).symm)) ?_
            refine W.widen (k := (57 * k12 + 52)) (n := (448 * k12 + 420)) (by omega) (by omega) ?_
            exact jn194  M76 F76 hL76  _ _ _ Wd (lv_sub hl [0, 1, 2, 3, 4, 5, 6, 7, 8] rfl)
        refine z_iload_n C0 hl 8 rfl dL_messages_127 ?_
        refine z_if_le C0 (tgt := 143) (zR_mk (by omega) (by omega)) dL_messages_128 (by decide) (fun c102 => ?_) (fun c102 => ?_)
        · skip
          refine W.widen (k := (57 * k12 + 32)) (n := (448 * k12 + 300)) (by omega) (by omega) ?_
          exact jn143  M64 F64 hL64  _ _ _ Wd (lv_sub hl [5, 6, 7, 8, 4, 3, 2, 1, 0] rfl)
        · skip
          refine z_iload C0 hl 4 rfl dL_messages_131 ?_
          refine z_aload_n C0 hl 5 rfl dL_messages_133 ?_
          refine z_iload_n C0 hl 8 rfl dL_messages_134 ?_
          refine z_iconst C0 dL_messages_135 ?_
          refine z_isub C0 dL_messages_136 ?_
          refine z_invSH (As := [.ref (ad 0), .int (zI ((k12 : Int) - 1))]) (rest := [.int (zI (V (96 + 47 * (k12 : Int) + 0)))]) C0 Wd hst (hq_messageAt l g (w69 ++ (w67 ++ ([dcl g dk D] ++ zX))) ad M64 F64 hL64 ((k12 : Int) - 1) (zR_mk (by omega) (by omega)) ) hs_messageAt zk_875 rfl hl.1 rfl (Nat.le_of_ble_eq_true rfl) (by decide) ⟨by show _ ≤ 468; omega, by show _ ≤ 3658; omega⟩ dL_messages_137 (fun k103 M103 F103 H locs hr103 hp103 Wd => ?_)
          obtain ⟨rfl, hQ103⟩ := hp103
          have hL103 := hQ103.1
          obtain ⟨he104, hr103⟩ : (qMa V ((k12 : Int) - 1)) = (V (96 + 47 * ((k12 : Int) - 1) + 0)) ∧ zR (V (96 + 47 * ((k12 : Int) - 1) + 0)) := (fun q => ⟨q, q ▸ hr103⟩) (qMa_in ⟨by omega, by omega⟩)
          refine z_top (congrArg zI he104) ?_
          clear he104
          refine z_icmp_le C0 (tgt := 180) hr45 hr103 dL_messages_140 (by decide) (fun h9 => (by exfalso; have := hL.id ((k12 : Int) - 1) (k12 : Int) (by omega) (by omega) (by omega); omega)) (fun c105 => ?_)
          refine W.widen (k := (57 * k12 + 32)) (n := (448 * k12 + 300)) (by omega) (by omega) ?_
          exact jn143  M103 F103 hL103  _ _ _ Wd (lv_sub hl [5, 6, 7, 8, 4, 3, 2, 1, 0] rfl)
  refine W.widen (k := (57 * 0 + 1)) (n := (448 * 0 + 8)) (by omega) (by omega) ?_
  exact lp12 (V 2).toNat 0 (by omega) (fun _ => 0) M1 F1 hL1 (fun _ => zR_0) (fun x _ _ => rfl) _ _ _ Wd (lv_sub hl [3, 2, 1, 0] rfl)
