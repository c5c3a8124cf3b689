/-! the class: a message goes -/
theorem kv_X10_dropMessage : zKV yX10_dropMessage cX10_dropMessage 5 (some (.object "DrumWarren$Fault")) "DrumWarren$State" 1 := ⟨zk_1519, zk_1517, zk_1518, zk_26, by decide, by decide, by decide +kernel⟩
set_option maxHeartbeats 4000000 in
set_option maxRecDepth 100000 in
theorem ct_X10_dropMessage (l : Launch) (g : zG) (zX : va_W) (ad : Int → Nat) (zM0 zF0 : zMem) (b : Int) (hb : zB b) (V : Int → Int) (zt : Int) (x0 : Int) (hx0 : zR x0) (hR : zRS b V zM0 zF0) (hI : zIV zt V) (hU : zId V) : zMt l yX10_dropMessage cX10_dropMessage 5 (some (.object "DrumWarren$Fault")) 1 0 0 g (0, 398, zX) ad [.ref (ad b), .int (zI x0)] zM0 zF0 (zPe g (fun r M' F' => zFt [2, 4] (zdFo x0 V).1 r ∧ zRS b (zdFo x0 V).2.2 M' F' ∧ zOut b zM0 zF0 M' F')) := by
  refine zMt.of "DrumWarren$State" rfl (by decide +kernel) (Nat.le_of_ble_eq_true rfl) (fun {p e s m args below meth c ls} C0 Wd hl hret hlk hin => ?_)
  have hl : lv_has ls 5 [(0, .ref (ad b)), (1, .int (zI x0))] := hl
  have h0b := hI.1
  have h1b := hI.2.1
  have h2b := hI.2.2.1
  have hTb := hI.2.2.2.2.1
  have hbb := zB_bd hb
  refine z_aload_n C0 hl 0 rfl dX10_dropMessage_0 ?_
  refine z_iload_n C0 hl 1 rfl dX10_dropMessage_1 ?_
  refine z_invVi (As := [.int (zI x0)]) (rest := []) C0 Wd (ct_X10_positionOf l g zX ad zM0 zF0 b hb V zt x0 hx0 hR hI hU.ne) kv_X10_positionOf (znB0 hb) (zE_7 (zkB0 hb)) rfl zk_1520 rfl hl.1 rfl (Nat.le_of_ble_eq_true rfl) (by decide) (by decide) dX10_dropMessage_2 (fun r1 zMr1 zFr1 H locs hrr1 hp Wd => ?_)
  obtain ⟨rfl, rfl, rfl⟩ := hp
  have hpl : -1 ≤ zpl x0 V ∧ zpl x0 V < V 2 := by have := zlast_bd (P := fun q => V (96 + 47 * q + 0) = x0) (V 2).toNat; show -1 ≤ zlast _ _ ∧ zlast _ _ < V 2; omega
  refine z_istore_n C0 hl [(2, .int (zI (zpl x0 V))), (0, .ref (ad b)), (1, .int (zI x0))] (by decide) rfl dX10_dropMessage_5 (fun ls hl => ?_)
  refine z_iload_n C0 hl 0 rfl dX10_dropMessage_6 ?_
  refine z_iconst C0 dX10_dropMessage_7 ?_
  refine z_icmp_ne C0 (tgt := 15) hrr1 (zR_mk (by decide) (by decide)) dX10_dropMessage_8 (by decide) (fun c3 => ?_) (fun c3 => ?_)
  · skip
    refine z_aload_n C0 hl 1 rfl dX10_dropMessage_15 ?_
    refine zg_7_3 C0 Wd (znB0 hb) (zkB0 hb) zk_198 dX10_dropMessage_16 ?_
    refine z_iload_n C0 hl 0 rfl dX10_dropMessage_19 ?_
    refine z_aald16 C0 Wd (znB6 hb) (zkB6 hb) (zlB6 hb) (by omega) (by omega) (by decide) dX10_dropMessage_20 ?_
    refine z_astore_n C0 hl [(3, .ref (ad (zF0 (b + 6) (zpl x0 V)))), (2, .int (zI (zpl x0 V))), (0, .ref (ad b)), (1, .int (zI x0))] (by decide) rfl dX10_dropMessage_21 (fun ls hl => ?_)
    refine z_aload_n C0 hl 0 rfl dX10_dropMessage_22 ?_
    refine zg_6_4 C0 Wd (znO (hR.mo (by omega) (by omega))) (zkO (hR.mo (by omega) (by omega))) zk_167 dX10_dropMessage_23 ?_
    obtain ⟨he5, hz4⟩ : (zM0 (zF0 (b + 6) (zpl x0 V)) 4) = (V (96 + 47 * (zpl x0 V) + 4)) ∧ zR (V (96 + 47 * (zpl x0 V) + 4)) := (fun q => ⟨q, q ▸ Wd.rm _ _⟩) (hR.m4 (by omega) (by omega))
    refine z_top (congrArg zI he5) ?_
    clear he5
    refine z_bipush C0 dX10_dropMessage_26 (by decide) ?_
    refine z_icmp_ne C0 (tgt := 35) hz4 (zR_mk (by decide) (by decide)) dX10_dropMessage_28 (by decide) (fun c6 => ?_) (fun c6 => ?_)
    · skip
      refine z_iload_n C0 hl 1 rfl dX10_dropMessage_35 ?_
      refine z_iconst C0 dX10_dropMessage_36 ?_
      refine z_iadd C0 dX10_dropMessage_37 ?_
      refine z_istore C0 hl [(4, .int (zI (zpl x0 V + 1))), (3, .ref (ad (zF0 (b + 6) (zpl x0 V)))), (2, .int (zI (zpl x0 V))), (0, .ref (ad b)), (1, .int (zI x0))] (by decide) rfl dX10_dropMessage_38 (fun ls hl => ?_)
      have aft40 : ∀ (k40 : Nat) (hk40 : (k40 : Int) ≤ (V 2 - 1 - zpl x0 V)) (f40 : zMem) (hm40 : ∀ q, zc8 q → f40 (b + 6) q = zmk (zpl x0 V) k40 (zF0 (b + 6)) q) (ho40 : ∀ a, a ≠ b + 6 → f40 a = zF0 a) (hx40 : (k40 : Int) = (V 2 - 1 - zpl x0 V)) (H : Heap) (locs : List Loc) (ls : Array Slot) (Wd : zW g (zA (0, 398, zX) ad s.heap.size) s.heap (0, 398, zX) ad zM0 f40 H locs) (hl : lv_has ls 5 [(0, .ref (ad b)), (1, .int (zI x0)), (2, .int (zI (zpl x0 V))), (3, .ref (ad (zF0 (b + 6) (zpl x0 V)))), (4, .int (zI (zpl x0 V + 1 + (k40 : Int))))]), W p l e (zrm 1 0 0) s m args below meth c H locs 0 0 (zMQ below g (0, 398, zX) ad (zPe g (fun r M' F' => zFt [2, 4] (zdFo x0 V).1 r ∧ zRS b (zdFo x0 V).2.2 M' F' ∧ zOut b zM0 zF0 M' F')) args s 0 0) (F0 m 71 ls []) := by
        intro k40 hk40 f40 hm40 ho40 hx40 H locs ls Wd hl
        replace hl : lv_has ls 5 [(0, .ref (ad b)), (1, .int (zI x0)), (2, .int (zI (zpl x0 V))), (3, .ref (ad (zF0 (b + 6) (zpl x0 V))))] := lv_sub hl [0, 1, 2, 3] rfl
        have hmo9 := hR.mo (p := zpl x0 V) (by omega) (by omega)
        have hbd := zMo_bd hmo9
        refine z_aload_n C0 hl 0 rfl dX10_dropMessage_71 ?_
        refine z_dup C0 rfl dX10_dropMessage_72 ?_
        refine zg_7_4 C0 Wd (znB0 hb) (zkB0 hb) zk_200 dX10_dropMessage_73 ?_
        obtain ⟨he8, hz7⟩ : (zM0 b 4) = (V 2) ∧ zR (V 2) := (fun q => ⟨q, q ▸ Wd.rm _ _⟩) hR.c4
        refine z_top (congrArg zI he8) ?_
        clear he8
        refine z_iconst C0 dX10_dropMessage_76 ?_
        refine z_isub C0 dX10_dropMessage_77 ?_
        refine zp_7_4 C0 Wd (znB0 hb) (zkB0 hb) (by have q0 := hz7.1; have p0 := hz7.2; exact zR_mk (by omega) (by omega)) zk_200 dX10_dropMessage_78 (fun H locs Wd => ?_)
        refine z_aload_n C0 hl 0 rfl dX10_dropMessage_81 ?_
        refine zg_7_3 C0 Wd (znB0 hb) (zkB0 hb) zk_198 dX10_dropMessage_82 ?_
        refine z_aload_n C0 hl 0 rfl dX10_dropMessage_85 ?_
        refine zg_7_4 C0 Wd (znB0 hb) (zkB0 hb) zk_200 dX10_dropMessage_86 ?_
        obtain ⟨he11, hz9⟩ : ((zu zM0 b 4 ((V 2) - 1)) b 4) = ((V 2) - 1) ∧ zR ((V 2) - 1) := (fun q => ⟨q, q ▸ Wd.rm _ _⟩) (zu_same _ _ _ _)
        refine z_top (congrArg zI he11) ?_
        clear he11
        refine z_aload_n C0 hl 3 rfl dX10_dropMessage_89 ?_
        refine z_aast16 C0 Wd (znB6 hb) (zkB6 hb) (zlB6 hb) (by omega) (by omega) (by decide) (znO (hR.mo (by omega) (by omega))) (zkO (hR.mo (by omega) (by omega))) dX10_dropMessage_90 (fun H locs Wd => ?_)
        refine z_gets C0 Wd (zc_F0 C0) zk_620 dX10_dropMessage_91 ?_
        exact z_eret C0 Wd hret hlk (by have e : zdFo x0 V = ((0, V 2 - 1, zdFoR (zpl x0 V) V) : zO) := (by unfold zdFo; rw [if_neg (by omega), if_neg (by assumption)]); rw [e]; exact ⟨rfl, zR_forget hR hI (by omega) (fun q hq => by rw [zu_rowup]; exact zmk_end hm40 (by omega) (by omega) rfl rfl q hq), fun a ha => ⟨zu_row (by omega), (zu_row (by omega)).trans (ho40 a (by omega))⟩⟩) dX10_dropMessage_94
      have lp40 : ∀ (d40 k40 : Nat) (hk40 : (k40 : Int) + d40 = (V 2 - 1 - zpl x0 V)) (f40 : zMem) (hm40 : ∀ q, zc8 q → f40 (b + 6) q = zmk (zpl x0 V) k40 (zF0 (b + 6)) q) (ho40 : ∀ a, a ≠ b + 6 → f40 a = zF0 a) (H : Heap) (locs : List Loc) (ls : Array Slot) (Wd : zW g (zA (0, 398, zX) ad s.heap.size) s.heap (0, 398, zX) ad zM0 f40 H locs) (hl : lv_has ls 5 [(0, .ref (ad b)), (1, .int (zI x0)), (2, .int (zI (zpl x0 V))), (3, .ref (ad (zF0 (b + 6) (zpl x0 V)))), (4, .int (zI (zpl x0 V + 1 + (k40 : Int))))]), W p l e (zrm 1 0 0) s m args below meth c H locs 0 0 (zMQ below g (0, 398, zX) ad (zPe g (fun r M' F' => zFt [2, 4] (zdFo x0 V).1 r ∧ zRS b (zdFo x0 V).2.2 M' F' ∧ zOut b zM0 zF0 M' F')) args s 0 0) (F0 m 40 ls []) := by
        intro d40
        induction d40 with
        | zero =>
          intro k40 hk40 f40 hm40 ho40 H locs ls Wd hl
          have hmo40 : ∀ q, zc8 q → zMo b (f40 (b + 6) q) := fun q hq => by
              have q0 := hq.1
              have q1 := hq.2
              rw [hm40 q hq]
              unfold zmk
              split
              · exact hR.mo (by omega) (by omega)
              · exact hR.mo q0 q1
          refine z_iload C0 hl 4 rfl dX10_dropMessage_40 ?_
          refine z_aload_n C0 hl 0 rfl dX10_dropMessage_42 ?_
          refine zg_7_4 C0 Wd (znB0 hb) (zkB0 hb) zk_200 dX10_dropMessage_43 ?_
          obtain ⟨he13, hz12⟩ : (zM0 b 4) = (V 2) ∧ zR (V 2) := (fun q => ⟨q, q ▸ Wd.rm _ _⟩) hR.c4
          refine z_top (congrArg zI he13) ?_
          clear he13
          refine z_icmp_ge C0 (tgt := 71) (zR_mk (by omega) (by omega)) hz12 dX10_dropMessage_46 (by decide) (fun c14 => ?_) (fun c14 => ?_)
          · skip
            first | exact aft40 k40 (by omega) f40 hm40 ho40 (by first | assumption | omega) _ _ _ Wd (lv_sub hl [0, 1, 2, 3, 4] rfl) | (exfalso; omega)
          · skip
            exfalso; omega
        | succ d40 ih40 =>
          intro k40 hk40 f40 hm40 ho40 H locs ls Wd hl
          have hmo40 : ∀ q, zc8 q → zMo b (f40 (b + 6) q) := fun q hq => by
              have q0 := hq.1
              have q1 := hq.2
              rw [hm40 q hq]
              unfold zmk
              split
              · exact hR.mo (by omega) (by omega)
              · exact hR.mo q0 q1
          refine z_iload C0 hl 4 rfl dX10_dropMessage_40 ?_
          refine z_aload_n C0 hl 0 rfl dX10_dropMessage_42 ?_
          refine zg_7_4 C0 Wd (znB0 hb) (zkB0 hb) zk_200 dX10_dropMessage_43 ?_
          obtain ⟨he16, hz15⟩ : (zM0 b 4) = (V 2) ∧ zR (V 2) := (fun q => ⟨q, q ▸ Wd.rm _ _⟩) hR.c4
          refine z_top (congrArg zI he16) ?_
          clear he16
          refine z_icmp_ge C0 (tgt := 71) (zR_mk (by omega) (by omega)) hz15 dX10_dropMessage_46 (by decide) (fun c17 => ?_) (fun c17 => ?_)
          · skip
            first | exact aft40 k40 (by omega) f40 hm40 ho40 (by first | assumption | omega) _ _ _ Wd (lv_sub hl [0, 1, 2, 3, 4] rfl) | (exfalso; omega)
          · skip
            refine z_aload_n C0 hl 0 rfl dX10_dropMessage_49 ?_
            refine zg_7_3 C0 Wd (znB0 hb) (zkB0 hb) zk_198 dX10_dropMessage_50 ?_
            refine z_iload C0 hl 4 rfl dX10_dropMessage_53 ?_
            refine z_iconst C0 dX10_dropMessage_55 ?_
            refine z_isub C0 dX10_dropMessage_56 ?_
            refine z_aload_n C0 hl 0 rfl dX10_dropMessage_57 ?_
            refine zg_7_3 C0 Wd (znB0 hb) (zkB0 hb) zk_198 dX10_dropMessage_58 ?_
            refine z_iload C0 hl 4 rfl dX10_dropMessage_61 ?_
            refine z_aald16 C0 Wd (znB6 hb) (zkB6 hb) (zlB6 hb) (by omega) (by omega) (by decide) dX10_dropMessage_63 ?_
            refine z_aast16 C0 Wd (znB6 hb) (zkB6 hb) (zlB6 hb) (by omega) (by omega) (by decide) (znO (hmo40 (zpl x0 V + 1 + (k40 : Int)) ⟨by omega, by omega⟩)) (zkO (hmo40 (zpl x0 V + 1 + (k40 : Int)) ⟨by omega, by omega⟩)) dX10_dropMessage_64 (fun H locs Wd => ?_)
            refine z_iinc C0 hl 4 (t := (zpl x0 V + 1 + (k40 : Int))) (u := ((zpl x0 V + 1 + (k40 : Int)) + 1)) rfl (by omega) [(4, .int (zI ((zpl x0 V + 1 + (k40 : Int)) + 1))), (0, .ref (ad b)), (1, .int (zI x0)), (2, .int (zI (zpl x0 V))), (3, .ref (ad (zF0 (b + 6) (zpl x0 V))))] (by decide) rfl dX10_dropMessage_65 (fun ls hl => ?_)
            refine z_goto C0 (tgt := 40) dX10_dropMessage_68 (by decide) ?_
            rw [show zpl x0 V + 1 + (k40 : Int) + 1 = zpl x0 V + 1 + ((k40 + 1 : Nat) : Int) by omega] at hl
            exact ih40 (k40 + 1) (by omega) (zu f40 (b + 6) ((zpl x0 V + 1 + (k40 : Int)) - 1) (f40 (b + 6) (zpl x0 V + 1 + (k40 : Int)))) (fun q hq => by rw [zu_rowup]; exact zmk_step hm40 (by omega) (by omega) (by omega) (congrArg _ (by omega)) q hq) (fun a ha => (zu_row ha).trans (ho40 a ha)) _ _ _ Wd (lv_sub hl [1, 2, 3, 4, 0] rfl)
      rw [show zpl x0 V + 1 = zpl x0 V + 1 + ((0 : Nat) : Int) by omega] at hl
      exact lp40 ((V 2 - 1 - zpl x0 V)).toNat 0 (by omega) zF0 (fun q hq => by unfold zmk; rw [if_neg (by omega)]) (fun a ha => rfl) _ _ _ Wd (lv_sub hl [3, 4, 2, 1, 0] rfl)
    · skip
      refine z_gets C0 Wd (zc_F4 C0) zk_619 dX10_dropMessage_31 ?_
      exact z_eret C0 Wd hret hlk (by have e : (zdFo x0 V) = ((2, 0, V) : zO) := (by unfold zdFo; first | (rw [if_pos (by first | assumption | omega)]; done) | (rw [if_neg (by first | assumption | omega), if_pos (by first | assumption | omega)]; done) | (rw [if_neg (by first | assumption | omega)]; done) | (rw [if_neg (by first | assumption | omega), if_neg (by first | assumption | omega), if_pos (by first | assumption | omega)]; done) | (rw [if_neg (by first | assumption | omega), if_neg (by first | assumption | omega)]; done) | (rw [if_neg (by first | assumption | omega), if_neg (by first | assumption | omega), if_neg (by first | assumption | omega)]; done)); rw [e]; exact ⟨rfl, hR, zOut_rf⟩) dX10_dropMessage_34
  · skip
    refine z_gets C0 Wd (zc_F2 C0) zk_1521 dX10_dropMessage_11 ?_
    exact z_eret C0 Wd hret hlk (by have e : (zdFo x0 V) = ((1, 0, V) : zO) := (by unfold zdFo; first | (rw [if_pos (by first | assumption | omega)]; done) | (rw [if_neg (by first | assumption | omega), if_pos (by first | assumption | omega)]; done) | (rw [if_neg (by first | assumption | omega)]; done) | (rw [if_neg (by first | assumption | omega), if_neg (by first | assumption | omega), if_pos (by first | assumption | omega)]; done) | (rw [if_neg (by first | assumption | omega), if_neg (by first | assumption | omega)]; done) | (rw [if_neg (by first | assumption | omega), if_neg (by first | assumption | omega), if_neg (by first | assumption | omega)]; done)); rw [e]; exact ⟨rfl, hR, zOut_rf⟩) dX10_dropMessage_14
