/-! the class: a State is copied -/
theorem kv_X10_copyFrom : zKV yX10_copyFrom cX10_copyFrom 3 none "DrumWarren$State" 1 := ⟨zk_389, zk_387, zk_388, zk_26, by decide, by decide, by decide +kernel⟩
set_option maxHeartbeats 4000000 in
set_option maxRecDepth 100000 in
theorem ct_X10_copyFrom (l : Launch) (g : zG) (zX : va_W) (ad : Int → Nat) (zM0 zF0 : zMem) (b b2 : Int) (hb : zB b) (hb2 : zB b2) (V : Int → Int) (zt : Int) (hR2 : zRS b2 V zM0 zF0) (hI : zIV zt V) (hpp : zRp b zF0) (hd : b + 31 ≤ b2 ∨ b2 + 31 ≤ b) : zMt l yX10_copyFrom cX10_copyFrom 3 none 3 0 0 g (0, 398, zX) ad [.ref (ad b), .ref (ad b2)] zM0 zF0 (zPv (fun M' F' => (∃ M1 : zMem, (zRS b V M1 zF0) ∧ (zOut b zM0 zF0 M1 zF0) ∧ M1 = M' ∧ zF0 = F'))) := by
  refine zMt.of "DrumWarren$State" rfl (by decide +kernel) (Nat.le_of_ble_eq_true rfl) (fun {p e s m args below meth c ls} C0 Wd hl hret hlk hin => ?_)
  have hl : lv_has ls 3 [(0, .ref (ad b)), (1, .ref (ad b2))] := hl
  have h0b := hI.1
  have h1b := hI.2.1
  have h2b := hI.2.2.1
  have hbb := zB_bd hb
  have hbb2 := zB_bd hb2
  refine z_aload_n C0 hl 0 rfl dX10_copyFrom_0 ?_
  refine zg_7_0 C0 Wd (znB0 hb) (zkB0 hb) zk_193 dX10_copyFrom_1 ?_
  refine z_aload_n C0 hl 1 rfl dX10_copyFrom_4 ?_
  refine zg_7_0 C0 Wd (znB0 hb2) (zkB0 hb2) zk_193 dX10_copyFrom_5 ?_
  refine z_invVv (As := [.ref (ad (b2 + 1))]) (rest := []) C0 Wd (ct_X2_copyFrom l g zX ad zM0 zF0 b b2 hb hb2 (by omega)) kv_X2_copyFrom (znB1 hb) (zE_1 (zkB1 hb)) rfl zk_390 rfl hl.1 rfl (Nat.le_of_ble_eq_true rfl) (by decide) (by decide) dX10_copyFrom_8 (fun zMr1 zFr1 H locs hp Wd => ?_)
  obtain ⟨rfl, rfl⟩ := hp
  refine z_aload_n C0 hl 0 rfl dX10_copyFrom_11 ?_
  refine z_aload_n C0 hl 1 rfl dX10_copyFrom_12 ?_
  refine zg_7_2 C0 Wd (znB0 hb2) (zkB0 hb2) zk_196 dX10_copyFrom_13 ?_
  obtain ⟨he4, hz3⟩ : ((zrow (zrow (zu (zu zM0 (b + 1) 0 (zM0 (b2 + 1) 0)) (b + 1) 1 (zM0 (b2 + 1) 1)) (b + 2) (zM0 (b2 + 2))) (b + 3) (zM0 (b2 + 3))) b2 2) = (V 1) ∧ zR (V 1) := (fun q => ⟨q, q ▸ Wd.rm _ _⟩) ((congrFun (zrow_ne (by omega)) _).trans ((congrFun (zrow_ne (by omega)) _).trans ((zu_ne (by omega)).trans ((zu_ne (by omega)).trans hR2.c2))))
  refine z_top (congrArg zI he4) ?_
  clear he4
  refine zp_7_2 C0 Wd (znB0 hb) (zkB0 hb) hz3 zk_196 dX10_copyFrom_16 (fun H locs Wd => ?_)
  refine z_iconst C0 dX10_copyFrom_19 ?_
  have hB19 := zcf_1 (b := b) (b2 := b2) hR2 (by omega)
  refine z_istore_n C0 hl [(2, .int (zI 0)), (0, .ref (ad b)), (1, .ref (ad b2))] (by decide) rfl dX10_copyFrom_20 (fun ls hl => ?_)
  have aft21 : ∀ (k21 : Nat) (hk21 : (k21 : Int) ≤ (V 1)) (M2 : zMem) (hA : zcA b V M2) (hH : ∀ h, 0 ≤ h → h < (k21 : Int) → zcH b h V M2) (ho2 : zOut b zM0 zF0 M2 zF0) (hx21 : (k21 : Int) = (V 1)) (H : Heap) (locs : List Loc) (ls : Array Slot) (Wd : zW g (zA (0, 398, zX) ad s.heap.size) s.heap (0, 398, zX) ad M2 zF0 H locs) (hl : lv_has ls 3 [(0, .ref (ad b)), (1, .ref (ad b2)), (2, .int (zI (k21 : Int)))]), W p l e (zrm 3 0 0) s m args below meth c H locs 0 0 (zMQ below g (0, 398, zX) ad (zPv (fun M' F' => (∃ M1 : zMem, (zRS b V M1 zF0) ∧ (zOut b zM0 zF0 M1 zF0) ∧ M1 = M' ∧ zF0 = F'))) args s 0 0) (F0 m 50 ls []) := by
    intro k21 hk21 M2 hA hH ho2 hx21 H locs ls Wd hl
    replace hl : lv_has ls 3 [(0, .ref (ad b)), (1, .ref (ad b2))] := lv_sub hl [0, 1] rfl
    have hs2 := zRS_out hR2 (by omega) (by omega) ho2 (by omega)
    have hH9 : zRh b V M2 := fun h h0 h1 => hH h h0 (by omega)
    refine z_aload_n C0 hl 0 rfl dX10_copyFrom_50 ?_
    refine z_aload_n C0 hl 1 rfl dX10_copyFrom_51 ?_
    refine zg_7_4 C0 Wd (znB0 hb2) (zkB0 hb2) zk_200 dX10_copyFrom_52 ?_
    obtain ⟨he6, hz5⟩ : (M2 b2 4) = (V 2) ∧ zR (V 2) := (fun q => ⟨q, q ▸ Wd.rm _ _⟩) hs2.c4
    refine z_top (congrArg zI he6) ?_
    clear he6
    refine zp_7_4 C0 Wd (znB0 hb) (zkB0 hb) hz5 zk_200 dX10_copyFrom_55 (fun H locs Wd => ?_)
    refine z_iconst C0 dX10_copyFrom_58 ?_
    refine z_istore_n C0 hl [(2, .int (zI 0)), (0, .ref (ad b)), (1, .ref (ad b2))] (by decide) rfl dX10_copyFrom_59 (fun ls hl => ?_)
    have aft60 : ∀ (k60 : Nat) (hk60 : (k60 : Int) ≤ (V 2)) (M6 : zMem) (hA6 : zcA b V M6) (hH6 : zRh b V M6) (hm6 : ∀ q, 0 ≤ q → q < (k60 : Int) → zRm1 b q (zF0 (b + 6) q) V M6) (ho6 : zOut b zM0 zF0 M6 zF0) (h46 : M6 b 4 = V 2) (hx60 : (k60 : Int) = (V 2)) (H : Heap) (locs : List Loc) (ls : Array Slot) (Wd : zW g (zA (0, 398, zX) ad s.heap.size) s.heap (0, 398, zX) ad M6 zF0 H locs) (hl : lv_has ls 3 [(0, .ref (ad b)), (1, .ref (ad b2)), (2, .int (zI (k60 : Int)))]), W p l e (zrm 3 0 0) s m args below meth c H locs 0 0 (zMQ below g (0, 398, zX) ad (zPv (fun M' F' => (∃ M1 : zMem, (zRS b V M1 zF0) ∧ (zOut b zM0 zF0 M1 zF0) ∧ M1 = M' ∧ zF0 = F'))) args s 0 0) (F0 m 89 ls []) := by
      intro k60 hk60 M6 hA6 hH6 hm6 ho6 h46 hx60 H locs ls Wd hl
      replace hl : lv_has ls 3 [(0, .ref (ad b)), (1, .ref (ad b2))] := lv_sub hl [0, 1] rfl
      have hs6 := zRS_out hR2 (by omega) (by omega) ho6 (by omega)
      have hm9 : ∀ q, 0 ≤ q → q < V 2 → zRm1 b q (zF0 (b + 6) q) V M6 := fun q q0 q1 => hm6 q q0 (by omega)
      refine z_aload_n C0 hl 0 rfl dX10_copyFrom_89 ?_
      refine z_aload_n C0 hl 1 rfl dX10_copyFrom_90 ?_
      refine zg_7_5 C0 Wd (znB0 hb2) (zkB0 hb2) zk_202 dX10_copyFrom_91 ?_
      obtain ⟨he8, hz7⟩ : (M6 b2 5) = (V 3) ∧ zR (V 3) := (fun q => ⟨q, q ▸ Wd.rm _ _⟩) hs6.c5
      refine z_top (congrArg zI he8) ?_
      clear he8
      refine zp_7_5 C0 Wd (znB0 hb) (zkB0 hb) hz7 zk_202 dX10_copyFrom_94 (fun H locs Wd => ?_)
      refine z_aload_n C0 hl 0 rfl dX10_copyFrom_97 ?_
      refine zg_7_6 C0 Wd (znB0 hb) (zkB0 hb) zk_204 dX10_copyFrom_98 ?_
      refine z_aload_n C0 hl 1 rfl dX10_copyFrom_101 ?_
      refine zg_7_6 C0 Wd (znB0 hb2) (zkB0 hb2) zk_204 dX10_copyFrom_102 ?_
      refine z_invVv (As := [.ref (ad (b2 + 7))]) (rest := []) C0 Wd (ct_X1_copyFrom l g zX ad (zu M6 b 5 (V 3)) zF0 b b2 hb hb2) kv_X1_copyFrom (znB7 hb) (zE_0 (zkB7 hb)) rfl zk_406 rfl hl.1 rfl (Nat.le_of_ble_eq_true rfl) (by decide) (by decide) dX10_copyFrom_105 (fun zMr9 zFr9 H locs hp Wd => ?_)
      obtain ⟨rfl, rfl⟩ := hp
      refine z_aload_n C0 hl 0 rfl dX10_copyFrom_108 ?_
      refine z_aload_n C0 hl 1 rfl dX10_copyFrom_109 ?_
      refine zg_7_7 C0 Wd (znB0 hb2) (zkB0 hb2) zk_206 dX10_copyFrom_110 ?_
      obtain ⟨he12, hz11⟩ : ((zrow (zu M6 b 5 (V 3)) (b + 8) ((zu M6 b 5 (V 3)) (b2 + 8))) b2 7) = (V 4) ∧ zR (V 4) := (fun q => ⟨q, q ▸ Wd.rm _ _⟩) ((congrFun (zrow_ne (by omega)) _).trans ((zu_ne (by omega)).trans hs6.c7))
      refine z_top (congrArg zI he12) ?_
      clear he12
      refine zp_7_7 C0 Wd (znB0 hb) (zkB0 hb) hz11 zk_206 dX10_copyFrom_113 (fun H locs Wd => ?_)
      refine z_aload_n C0 hl 0 rfl dX10_copyFrom_116 ?_
      refine z_aload_n C0 hl 1 rfl dX10_copyFrom_117 ?_
      refine zg_7_8 C0 Wd (znB0 hb2) (zkB0 hb2) zk_208 dX10_copyFrom_118 ?_
      obtain ⟨he14, hz13⟩ : ((zu (zrow (zu M6 b 5 (V 3)) (b + 8) ((zu M6 b 5 (V 3)) (b2 + 8))) b 7 (V 4)) b2 8) = (V 5) ∧ zR (V 5) := (fun q => ⟨q, q ▸ Wd.rm _ _⟩) ((zu_ne (by omega)).trans ((congrFun (zrow_ne (by omega)) _).trans ((zu_ne (by omega)).trans hs6.c8)))
      refine z_top (congrArg zI he14) ?_
      clear he14
      refine zp_7_8 C0 Wd (znB0 hb) (zkB0 hb) hz13 zk_208 dX10_copyFrom_121 (fun H locs Wd => ?_)
      refine z_aload_n C0 hl 0 rfl dX10_copyFrom_124 ?_
      refine z_aload_n C0 hl 1 rfl dX10_copyFrom_125 ?_
      refine zg_7_9 C0 Wd (znB0 hb2) (zkB0 hb2) zk_210 dX10_copyFrom_126 ?_
      obtain ⟨he16, hz15⟩ : ((zu (zu (zrow (zu M6 b 5 (V 3)) (b + 8) ((zu M6 b 5 (V 3)) (b2 + 8))) b 7 (V 4)) b 8 (V 5)) b2 9) = (V 6) ∧ zR (V 6) := (fun q => ⟨q, q ▸ Wd.rm _ _⟩) ((zu_ne (by omega)).trans ((zu_ne (by omega)).trans ((congrFun (zrow_ne (by omega)) _).trans ((zu_ne (by omega)).trans hs6.c9))))
      refine z_top (congrArg zI he16) ?_
      clear he16
      refine zp_7_9 C0 Wd (znB0 hb) (zkB0 hb) hz15 zk_210 dX10_copyFrom_129 (fun H locs Wd => ?_)
      refine z_aload_n C0 hl 0 rfl dX10_copyFrom_132 ?_
      refine z_aload_n C0 hl 1 rfl dX10_copyFrom_133 ?_
      refine zg_7_10 C0 Wd (znB0 hb2) (zkB0 hb2) zk_212 dX10_copyFrom_134 ?_
      obtain ⟨he18, hz17⟩ : ((zu (zu (zu (zrow (zu M6 b 5 (V 3)) (b + 8) ((zu M6 b 5 (V 3)) (b2 + 8))) b 7 (V 4)) b 8 (V 5)) b 9 (V 6)) b2 10) = (V 7) ∧ zR (V 7) := (fun q => ⟨q, q ▸ Wd.rm _ _⟩) ((zu_ne (by omega)).trans ((zu_ne (by omega)).trans ((zu_ne (by omega)).trans ((congrFun (zrow_ne (by omega)) _).trans ((zu_ne (by omega)).trans hs6.c10)))))
      refine z_top (congrArg zI he18) ?_
      clear he18
      refine zp_7_10 C0 Wd (znB0 hb) (zkB0 hb) hz17 zk_212 dX10_copyFrom_137 (fun H locs Wd => ?_)
      exact z_vret C0 Wd hret hlk ⟨_, zcf_end hA6 hH6 hpp hm9 hs6 h46 (by omega) (by omega) (by omega), zcf_out ho6 (by omega), rfl, rfl⟩ dX10_copyFrom_140
    have lp60 : ∀ (d60 k60 : Nat) (hk60 : (k60 : Int) + d60 = (V 2)) (M6 : zMem) (hA6 : zcA b V M6) (hH6 : zRh b V M6) (hm6 : ∀ q, 0 ≤ q → q < (k60 : Int) → zRm1 b q (zF0 (b + 6) q) V M6) (ho6 : zOut b zM0 zF0 M6 zF0) (h46 : M6 b 4 = V 2) (H : Heap) (locs : List Loc) (ls : Array Slot) (Wd : zW g (zA (0, 398, zX) ad s.heap.size) s.heap (0, 398, zX) ad M6 zF0 H locs) (hl : lv_has ls 3 [(0, .ref (ad b)), (1, .ref (ad b2)), (2, .int (zI (k60 : Int)))]), W p l e (zrm 3 0 0) s m args below meth c H locs 0 0 (zMQ below g (0, 398, zX) ad (zPv (fun M' F' => (∃ M1 : zMem, (zRS b V M1 zF0) ∧ (zOut b zM0 zF0 M1 zF0) ∧ M1 = M' ∧ zF0 = F'))) args s 0 0) (F0 m 60 ls []) := by
      intro d60
      induction d60 with
      | zero =>
        intro k60 hk60 M6 hA6 hH6 hm6 ho6 h46 H locs ls Wd hl
        have hs6 := zRS_out hR2 (by omega) (by omega) ho6 (by omega)
        refine z_iload_n C0 hl 2 rfl dX10_copyFrom_60 ?_
        refine z_aload_n C0 hl 0 rfl dX10_copyFrom_61 ?_
        refine zg_7_4 C0 Wd (znB0 hb) (zkB0 hb) zk_200 dX10_copyFrom_62 ?_
        obtain ⟨he20, hz19⟩ : (M6 b 4) = (V 2) ∧ zR (V 2) := (fun q => ⟨q, q ▸ Wd.rm _ _⟩) h46
        refine z_top (congrArg zI he20) ?_
        clear he20
        refine z_icmp_ge C0 (tgt := 89) (zR_mk (by omega) (by omega)) hz19 dX10_copyFrom_65 (by decide) (fun c21 => ?_) (fun c21 => ?_)
        · skip
          first | exact aft60 k60 (by omega) M6 hA6 hH6 hm6 ho6 h46 (by first | assumption | omega) _ _ _ Wd (lv_sub hl [0, 1, 2] rfl) | (exfalso; omega)
        · skip
          exfalso; omega
      | succ d60 ih60 =>
        intro k60 hk60 M6 hA6 hH6 hm6 ho6 h46 H locs ls Wd hl
        have hs6 := zRS_out hR2 (by omega) (by omega) ho6 (by omega)
        refine z_iload_n C0 hl 2 rfl dX10_copyFrom_60 ?_
        refine z_aload_n C0 hl 0 rfl dX10_copyFrom_61 ?_
        refine zg_7_4 C0 Wd (znB0 hb) (zkB0 hb) zk_200 dX10_copyFrom_62 ?_
        obtain ⟨he23, hz22⟩ : (M6 b 4) = (V 2) ∧ zR (V 2) := (fun q => ⟨q, q ▸ Wd.rm _ _⟩) h46
        refine z_top (congrArg zI he23) ?_
        clear he23
        refine z_icmp_ge C0 (tgt := 89) (zR_mk (by omega) (by omega)) hz22 dX10_copyFrom_65 (by decide) (fun c24 => ?_) (fun c24 => ?_)
        · skip
          first | exact aft60 k60 (by omega) M6 hA6 hH6 hm6 ho6 h46 (by first | assumption | omega) _ _ _ Wd (lv_sub hl [0, 1, 2] rfl) | (exfalso; omega)
        · skip
          have hmo9 := hpp.1 (k60 : Int) ⟨by omega, by omega⟩
          have hbd := zMo_bd hmo9
          have hmo92 := hR2.mo (p := (k60 : Int)) (by omega) (by omega)
          have hbd2 := zMo_bd hmo92
          refine z_aload_n C0 hl 0 rfl dX10_copyFrom_68 ?_
          refine zg_7_3 C0 Wd (znB0 hb) (zkB0 hb) zk_198 dX10_copyFrom_69 ?_
          refine z_iload_n C0 hl 2 rfl dX10_copyFrom_72 ?_
          refine z_aald16 C0 Wd (znB6 hb) (zkB6 hb) (zlB6 hb) (by omega) (by omega) (by decide) dX10_copyFrom_73 ?_
          refine z_aload_n C0 hl 1 rfl dX10_copyFrom_74 ?_
          refine zg_7_3 C0 Wd (znB0 hb2) (zkB0 hb2) zk_198 dX10_copyFrom_75 ?_
          refine z_iload_n C0 hl 2 rfl dX10_copyFrom_78 ?_
          refine z_aald16 C0 Wd (znB6 hb2) (zkB6 hb2) (zlB6 hb2) (by omega) (by omega) (by decide) dX10_copyFrom_79 ?_
          refine z_invVv (As := [.ref (ad (zF0 (b2 + 6) (k60 : Int)))]) (rest := []) C0 Wd (ct_X9_copyFrom l g zX ad M6 zF0 b b2 (zF0 (b + 6) (k60 : Int)) (zF0 (b2 + 6) (k60 : Int)) (hpp.1 _ ⟨by omega, by omega⟩) (hR2.mo (by omega) (by omega)) (by omega) (by have := (hI.2.2.2.2.2.2.1 (k60 : Int) (by omega) (by omega)).2.2.2.2.1; rw [hs6.m4 (by omega) (by omega)]; omega)) kv_X9_copyFrom (znO (hpp.1 _ ⟨by omega, by omega⟩)) (zE_6 (zkO (hpp.1 _ ⟨by omega, by omega⟩))) rfl zk_401 rfl hl.1 rfl (Nat.le_of_ble_eq_true rfl) (by decide) (by decide) dX10_copyFrom_80 (fun zMr25 zFr25 H locs hp Wd => ?_)
          obtain ⟨rfl, rfl⟩ := hp
          refine z_iinc C0 hl 2 (t := (k60 : Int)) (u := ((k60 : Int) + 1)) rfl (by omega) [(2, .int (zI ((k60 : Int) + 1))), (0, .ref (ad b)), (1, .ref (ad b2))] (by decide) rfl dX10_copyFrom_83 (fun ls hl => ?_)
          refine z_goto C0 (tgt := 60) dX10_copyFrom_86 (by decide) ?_
          exact ih60 (k60 + 1) (by omega) (zrow (zu (zu (zu (zu (zu (zu (zu M6 (zF0 (b + 6) (k60 : Int)) 0 (M6 (zF0 (b2 + 6) (k60 : Int)) 0)) (zF0 (b + 6) (k60 : Int)) 1 (M6 (zF0 (b2 + 6) (k60 : Int)) 1)) (zF0 (b + 6) (k60 : Int)) 2 (M6 (zF0 (b2 + 6) (k60 : Int)) 2)) (zF0 (b + 6) (k60 : Int)) 3 (M6 (zF0 (b2 + 6) (k60 : Int)) 3)) (zF0 (b + 6) (k60 : Int)) 4 (M6 (zF0 (b2 + 6) (k60 : Int)) 4)) (zF0 (b + 6) (k60 : Int)) 5 (M6 (zF0 (b2 + 6) (k60 : Int)) 5)) (zF0 (b + 6) (k60 : Int)) 6 (M6 (zF0 (b2 + 6) (k60 : Int)) 6)) ((zF0 (b + 6) (k60 : Int)) + 1) (M6 ((zF0 (b2 + 6) (k60 : Int)) + 1))) (zcA_m hA6 hbd) (zcHm hH6 hbd (by omega)) (fun q q0 q1 => by by_cases e : q = (k60 : Int) <;> first | (rw [e]; exact zcm_new (hs6.2.2.2.2.2.1 (k60 : Int) (by omega) (by omega)) hbd hbd2 (by omega)) | exact zcm_old (hm6 q q0 (by omega)) (hpp.1 q ⟨q0, by omega⟩) hmo9 (fun z => e (hpp.2 q (k60 : Int) ⟨q0, by omega⟩ ⟨by omega, by omega⟩ z))) (zOut_w (zOut_u (zOut_u (zOut_u (zOut_u (zOut_u (zOut_u (zOut_u ho6 (by omega)) (by omega)) (by omega)) (by omega)) (by omega)) (by omega)) (by omega)) (by omega)) (zcm_4 h46 hbd) _ _ _ Wd (lv_sub hl [1, 2, 0] rfl)
    exact lp60 ((V 2)).toNat 0 (by omega) (zu M2 b 4 (V 2)) (zcA_u hA (by omega)) (zcHu hH9) (fun q q0 q1 => by omega) (zOut_u ho2 (by omega)) (zu_same _ _ _ _) _ _ _ Wd (lv_sub hl [1, 2, 0] rfl)
  have lp21 : ∀ (d21 k21 : Nat) (hk21 : (k21 : Int) + d21 = (V 1)) (M2 : zMem) (hA : zcA b V M2) (hH : ∀ h, 0 ≤ h → h < (k21 : Int) → zcH b h V M2) (ho2 : zOut b zM0 zF0 M2 zF0) (H : Heap) (locs : List Loc) (ls : Array Slot) (Wd : zW g (zA (0, 398, zX) ad s.heap.size) s.heap (0, 398, zX) ad M2 zF0 H locs) (hl : lv_has ls 3 [(0, .ref (ad b)), (1, .ref (ad b2)), (2, .int (zI (k21 : Int)))]), W p l e (zrm 3 0 0) s m args below meth c H locs 0 0 (zMQ below g (0, 398, zX) ad (zPv (fun M' F' => (∃ M1 : zMem, (zRS b V M1 zF0) ∧ (zOut b zM0 zF0 M1 zF0) ∧ M1 = M' ∧ zF0 = F'))) args s 0 0) (F0 m 21 ls []) := by
    intro d21
    induction d21 with
    | zero =>
      intro k21 hk21 M2 hA hH ho2 H locs ls Wd hl
      have hs2 := zRS_out hR2 (by omega) (by omega) ho2 (by omega)
      have e2A := hA.2.2
      refine z_iload_n C0 hl 2 rfl dX10_copyFrom_21 ?_
      refine z_aload_n C0 hl 0 rfl dX10_copyFrom_22 ?_
      refine zg_7_2 C0 Wd (znB0 hb) (zkB0 hb) zk_196 dX10_copyFrom_23 ?_
      obtain ⟨he28, hz27⟩ : (M2 b 2) = (V 1) ∧ zR (V 1) := (fun q => ⟨q, q ▸ Wd.rm _ _⟩) e2A
      refine z_top (congrArg zI he28) ?_
      clear he28
      refine z_icmp_ge C0 (tgt := 50) (zR_mk (by omega) (by omega)) hz27 dX10_copyFrom_26 (by decide) (fun c29 => ?_) (fun c29 => ?_)
      · skip
        first | exact aft21 k21 (by omega) M2 hA hH ho2 (by first | assumption | omega) _ _ _ Wd (lv_sub hl [0, 1, 2] rfl) | (exfalso; omega)
      · skip
        exfalso; omega
    | succ d21 ih21 =>
      intro k21 hk21 M2 hA hH ho2 H locs ls Wd hl
      have hs2 := zRS_out hR2 (by omega) (by omega) ho2 (by omega)
      have e2A := hA.2.2
      refine z_iload_n C0 hl 2 rfl dX10_copyFrom_21 ?_
      refine z_aload_n C0 hl 0 rfl dX10_copyFrom_22 ?_
      refine zg_7_2 C0 Wd (znB0 hb) (zkB0 hb) zk_196 dX10_copyFrom_23 ?_
      obtain ⟨he31, hz30⟩ : (M2 b 2) = (V 1) ∧ zR (V 1) := (fun q => ⟨q, q ▸ Wd.rm _ _⟩) e2A
      refine z_top (congrArg zI he31) ?_
      clear he31
      refine z_icmp_ge C0 (tgt := 50) (zR_mk (by omega) (by omega)) hz30 dX10_copyFrom_26 (by decide) (fun c32 => ?_) (fun c32 => ?_)
      · skip
        first | exact aft21 k21 (by omega) M2 hA hH ho2 (by first | assumption | omega) _ _ _ Wd (lv_sub hl [0, 1, 2] rfl) | (exfalso; omega)
      · skip
        refine z_aload_n C0 hl 0 rfl dX10_copyFrom_29 ?_
        refine zg_7_1 C0 Wd (znB0 hb) (zkB0 hb) zk_195 dX10_copyFrom_30 ?_
        refine z_iload_n C0 hl 2 rfl dX10_copyFrom_33 ?_
        refine z_aald15 C0 Wd (znB5 hb) (zkB5 hb) (zlB5 hb) (by omega) (by omega) (by decide) dX10_copyFrom_34 ?_
        refine z_rf (show ((b + 5) + 4 + (k21 : Int)) = (b + 9 + (k21 : Int)) by omega) ?_
        refine z_aload_n C0 hl 1 rfl dX10_copyFrom_35 ?_
        refine zg_7_1 C0 Wd (znB0 hb2) (zkB0 hb2) zk_195 dX10_copyFrom_36 ?_
        refine z_iload_n C0 hl 2 rfl dX10_copyFrom_39 ?_
        refine z_aald15 C0 Wd (znB5 hb2) (zkB5 hb2) (zlB5 hb2) (by omega) (by omega) (by decide) dX10_copyFrom_40 ?_
        refine z_rf (show ((b2 + 5) + 4 + (k21 : Int)) = (b2 + 9 + (k21 : Int)) by omega) ?_
        refine z_invVv (As := [.ref (ad (b2 + 9 + (k21 : Int)))]) (rest := []) C0 Wd (ct_X7_copyFrom l g zX ad M2 zF0 (b + 9 + (k21 : Int)) (b2 + 9 + (k21 : Int)) (zkBh hb (by omega) (by omega)) (znBh hb (by omega) (by omega)) (zkBh hb2 (by omega) (by omega)) (znBh hb2 (by omega) (by omega)) (by omega) (by have := (hI.2.2.2.2.2.1 (k21 : Int) (by omega) (by omega)).2.1; rw [hs2.h1 (by omega) (by omega)]; exact this)) kv_X7_copyFrom (znBh hb (by omega) (by omega)) (zE_4 (zkBh hb (by omega) (by omega))) rfl zk_397 rfl hl.1 rfl (Nat.le_of_ble_eq_true rfl) (by decide) (by decide) dX10_copyFrom_41 (fun zMr33 zFr33 H locs hp Wd => ?_)
        obtain ⟨rfl, rfl⟩ := hp
        refine z_iinc C0 hl 2 (t := (k21 : Int)) (u := ((k21 : Int) + 1)) rfl (by omega) [(2, .int (zI ((k21 : Int) + 1))), (0, .ref (ad b)), (1, .ref (ad b2))] (by decide) rfl dX10_copyFrom_44 (fun ls hl => ?_)
        refine z_goto C0 (tgt := 21) dX10_copyFrom_47 (by decide) ?_
        exact ih21 (k21 + 1) (by omega) (zu (zu (zu (zu M2 (b + 9 + (k21 : Int)) 0 (M2 (b2 + 9 + (k21 : Int)) 0)) (b + 9 + (k21 : Int)) 1 (M2 (b2 + 9 + (k21 : Int)) 1)) (b + 9 + (k21 : Int)) 2 (M2 (b2 + 9 + (k21 : Int)) 2)) (b + 9 + (k21 : Int)) 3 (M2 (b2 + 9 + (k21 : Int)) 3)) (zcA_h hA (by omega)) (fun h h0 h1 => by by_cases e : h = (k21 : Int) <;> first | (rw [e]; exact zcH_new hs2 (by omega) (by omega) (by omega)) | exact zcH_old (hH h h0 (by omega)) (by omega)) (zOut_u (zOut_u (zOut_u (zOut_u ho2 (by omega)) (by omega)) (by omega)) (by omega)) _ _ _ Wd (lv_sub hl [1, 2, 0] rfl)
  exact lp21 ((V 1)).toNat 0 (by omega) (zu (zrow (zrow (zu (zu zM0 (b + 1) 0 (zM0 (b2 + 1) 0)) (b + 1) 1 (zM0 (b2 + 1) 1)) (b + 2) (zM0 (b2 + 2))) (b + 3) (zM0 (b2 + 3))) b 2 (V 1)) hB19 (fun h h0 h1 => by omega) (zOut_u (zOut_w (zOut_w (zOut_u (zOut_u zOut_rf (by omega)) (by omega)) (by omega)) (by omega)) (by omega)) _ _ _ Wd (lv_sub hl [1, 2, 0] rfl)
