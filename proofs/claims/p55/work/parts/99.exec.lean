/-! the class executes -/
theorem zc_Fne {g : zG} {A : Nat → Prop} {p : Program} {s : State} {m : MethodId} {args : Array Value} {c : Code} {cc : ByteArray} {nL : Nat} {own : String} (C0 : zC g A p s m args c cc nL own) {r : Int} (h0 : 0 ≤ r) (h1 : r < 5) (h : g.2.2.2 r = g.2.2.2 0) : r = 0 := by
  obtain ⟨cf, k, i, f, cell, a1, a2, a3, a4, a5, a6⟩ := (zc_FOi C0 h0 h1).2
  obtain ⟨cf', k', i', f', cell', b1, b2, b3, b4, b5, b6⟩ := (zc_FOi C0 (f := 0) (by decide) (by decide)).2
  rw [a1] at b1
  obtain ⟨rfl, rfl, rfl, rfl⟩ : cf = cf' ∧ k = k' ∧ i = i' ∧ f = f' := by simpa using b1
  rw [h] at a3
  rw [a3] at b3
  obtain rfl := Option.some.inj b3
  rw [a5] at b5
  have e : zI r = zI 0 := by simpa using b5
  have e2 := congrArg Int32.toInt e
  rw [zI_toInt (by omega) (by omega), zI_toInt (by omega) (by omega)] at e2
  exact e2
theorem z_acmpE {g : zG} {A : Nat → Prop} {p : Program} {l : Launch} {e : Env} {R : Room} {s : State} {m : MethodId} {args : Array Value} {below : List Frame} {meth : Method} {c : Code} {H : Heap} {locs : List Loc} {cells slots : Nat} {Q : State → Prop} {cc : ByteArray} {nL : Nat} {own : String} {pc : Nat} {ls : Array Slot} {rest : List Value} (C0 : zC g A p s m args c cc nL own) {r off : Int} {tgt : Nat} (h0 : 0 ≤ r) (h1 : r < 5) (hdg : decode cc pc = .ok (.if_acmp .eq off, 3)) (ht : (pc : Int) + off = (tgt : Int)) (k1 : r = 0 → W p l e R s m args below meth c H locs cells slots Q (F0 m tgt ls rest)) (k2 : ¬ r = 0 → W p l e R s m args below meth c H locs cells slots Q (F0 m (pc + 3) ls rest)) : W p l e R s m args below meth c H locs cells slots Q (F0 m pc ls (.ref (g.2.2.2 0) :: .ref (g.2.2.2 r) :: rest)) :=
  lv_acmp_eq (rx := some (g.2.2.2 r)) (ry := some (g.2.2.2 0)) C0.1.1 C0.1.2.1 hdg ht (fun h => k1 (zc_Fne C0 h0 h1 (Option.some.inj h))) (fun h => k2 (fun q => h (by rw [q])))
/-- the rows that execute leaves as they are -/
abbrev zXF (M F M' F' : zMem) : Prop := (∀ i, ((32 ≤ i ∧ i < 94) ∨ i = 376 ∨ 396 ≤ i) → M' i = M i ∧ F' i = F i) ∧ (∀ j, j ≠ 7 → j ≠ 8 → M' 0 j = M 0 j) ∧ M' 375 1 = 0
/-- what the class's execute brings where it returns -/
def zXN (T : Int → Int) (n zt many : Int) (V : Int → Int) (U : Int → Int → Int) (M F : zMem) (r : Int) (M' F' : zMem) : Prop :=
  ∃ m : Nat, ((∀ i, i < m → zgo T n i) ∧ ¬ zgo T n m) ∧ zer T n m = -1 ∧ (∀ i, i ≤ m → zok T n V i) ∧ r = (m : Int) + 1 ∧ zRS 1 (zVi T n V (m + 1)) M' F' ∧ zHi zt (zm8 many) (fun k => if k = 0 then V else U (k - 1)) M' F' ∧ M' 0 7 = M 0 7 ∧ M' 0 8 = M 0 8 ∧ zXF M F M' F'
/-- .. and where it throws -/
def zXT (T : Int → Int) (n zt many : Int) (V : Int → Int) (U : Int → Int → Int) (M F : zMem) (E : String) (M' F' : zMem) : Prop :=
  ∃ m : Nat, ((∀ i, i < m → zgo T n i) ∧ ¬ zgo T n m) ∧
  ((E = "java/lang/IllegalArgumentException" ∧ zer T n m ≠ -1 ∧ M' 0 7 = zer T n m ∧ M' 0 8 = M 0 8) ∨
   (E = "java/lang/UnsupportedOperationException" ∧ zer T n m = -1 ∧ M' 0 7 = M 0 7 ∧ ∃ f : Nat, f ≤ m ∧ (∀ i, i < f → zok T n V i) ∧ ¬ zok T n V f ∧ M' 0 8 = (f : Int))) ∧
  zRS 1 V M' F' ∧ zHi zt many U M' F' ∧ zXF M F M' F'
theorem zRp_of {b : Int} {V : Int → Int} {M F : zMem} (h : zRS b V M F) : zRp b F := h.2.2.2.2.1

theorem kv_X11_execute : zKV yX11_execute cX11_execute 2 (some .int) "DrumWarren" 0 := ⟨zk_1547, zk_1545, zk_1546, zk_25, by decide, by decide, by decide +kernel⟩
set_option maxHeartbeats 4000000 in
set_option maxRecDepth 100000 in
theorem ct_X11_execute (l : Launch) (g : zG) (zX : va_W) (ad : Int → Nat) (zM0 zF0 : zMem) (T : Int → Int) (n zt many : Int) (V : Int → Int) (U : Int → Int → Int) (hC : zCS T n zM0) (hT : ∀ j, 0 ≤ T j ∧ T j < 65536) (hR : zRS 1 V zM0 zF0) (hG : zGd zt V) (hH : zHi zt many U zM0 zF0) (ht : 0 ≤ zt ∧ zt ≤ 60000000) : zMx l yX11_execute cX11_execute 2 (some .int) 10 1 6 g (0, 398, zX) ad [.ref (ad 0)] zM0 zF0 (zPi (fun r M' F' => zXN T n zt many V U zM0 zF0 r M' F')) (fun E M' F' => zXT T n zt many V U zM0 zF0 E M' F') := by
  refine zMx.of "DrumWarren" rfl (by decide +kernel) (Nat.le_of_ble_eq_true rfl) (fun {p e s m args below meth c ls} C0 Wd hl hret hlk hin hst hno => ?_)
  have hl : lv_has ls 2 [(0, .ref (ad 0))] := hl
  have hn9 := hH.2.1
  have hC3 := hC.2.2
  refine z_aload_n C0 hl 0 rfl dX11_execute_0 ?_
  refine zg_8_4 C0 Wd zN0 zK0 zk_347 dX11_execute_1 ?_
  refine z_invVv (As := []) (rest := []) C0 Wd (ct_X5_readText l g zX ad zM0 zF0 T n hC hT) kv_X5_readText zN375 (zE_3 zK375) rfl zk_1548 rfl hl.1 rfl (Nat.le_of_ble_eq_true rfl) (by decide) (by decide) dX11_execute_4 (fun zMr1 zFr1 H locs hp Wd => ?_)
  obtain ⟨mm, hgo, hng, hcc, her, hck, hfr, hl1⟩ := hp
  have hab := zAt_bd hC.2.2.1 mm hgo
  have h0r : zMr1 0 = zM0 0 := (hfr 0 (by omega)).1
  refine z_aload_n C0 hl 0 rfl dX11_execute_7 ?_
  refine zg_8_4 C0 Wd zN0 zK0 zk_347 dX11_execute_8 ?_
  refine z_iconst C0 dX11_execute_11 ?_
  refine zp_3_1 C0 Wd zN375 zK375 (zR_mk (by decide) (by decide)) zk_289 dX11_execute_12 (fun H locs Wd => ?_)
  obtain ⟨Mp, hMp⟩ : ∃ Mp, Mp = (zu zMr1 375 1 0) := ⟨_, rfl⟩
  have hpr : ∀ i, i ≠ 375 → Mp i = zMr1 i := fun i a1 => by rw [hMp]; exact zu_row a1
  have hp3 : Mp 375 3 = (mm : Int) + 1 := by rw [hMp]; exact (zu_ne (by omega)).trans hcc
  have hp4 : Mp 375 4 = zer T n mm := by rw [hMp]; exact (zu_ne (by omega)).trans her
  have hp1 : Mp 375 1 = 0 := by rw [hMp]; exact zu_same _ _ _ _
  have hRp := zRS_in hR hG.v1 hG.v2 (fun i i0 i1 => ⟨(hpr i (by omega)).trans (hfr i (by omega)).1, (hfr i (by omega)).2⟩)
  have hHp := zHi_in hH (fun i i0 i1 => ⟨(hpr i (by omega)).trans (hfr i (by omega)).1, (hfr i (by omega)).2⟩)
  have hnp := hHp.2.1
  have hp0 : Mp 0 = zM0 0 := (hpr 0 (by omega)).trans h0r
  have hxf : ∀ i, ((32 ≤ i ∧ i < 94) ∨ i = 376 ∨ 396 ≤ i) → Mp i = zM0 i ∧ zFr1 i = zF0 i := fun i a1 => ⟨(hpr i (by omega)).trans (hfr i (by omega)).1, (hfr i (by omega)).2⟩
  rw [← hMp] at Wd
  refine z_aload_n C0 hl 0 rfl dX11_execute_15 ?_
  refine zg_8_4 C0 Wd zN0 zK0 zk_347 dX11_execute_16 ?_
  refine zg_3_4 C0 Wd zN375 zK375 zk_295 dX11_execute_19 ?_
  obtain ⟨he4, hz3⟩ : (Mp 375 4) = (zer T n mm) ∧ zR (zer T n mm) := (fun q => ⟨q, q ▸ Wd.rm _ _⟩) hp4
  refine z_top (congrArg zI he4) ?_
  clear he4
  refine z_iconst C0 dX11_execute_22 ?_
  refine z_icmp_eq C0 (tgt := 48) hz3 (zR_mk (by decide) (by decide)) dX11_execute_23 (by decide) (fun c5 => ?_) (fun c5 => ?_)
  · skip
    have hze : zer T n mm = -1 := by omega
    refine z_aload_n C0 hl 0 rfl dX11_execute_48 ?_
    refine zg_8_3 C0 Wd zN0 zK0 zk_346 dX11_execute_49 ?_
    refine z_aload_n C0 hl 0 rfl dX11_execute_52 ?_
    refine zg_8_0 C0 Wd zN0 zK0 zk_343 dX11_execute_53 ?_
    refine z_invVv (As := [.ref (ad 1)]) (rest := []) C0 Wd (ct_X8_prepare l g zX ad Mp zFr1 1 zB_1 V zt hRp hG.1 hHp.2.1 (hHp.2.2.2.2 _ (by omega) (by omega)) (by omega)) kv_X8_prepare zN94 (zE_5 zK94) rfl zk_382 rfl hl.1 rfl (Nat.le_of_ble_eq_true rfl) (by decide) (by decide) dX11_execute_56 (fun zMr6 zFr6 H locs hp Wd => ?_)
    rcases hp with ⟨M1_r6, hr6_0_0, hr6_0_1, rfl, rfl⟩
    · skip
      obtain ⟨hRa, hHa, hPa, hFa⟩ := zFc_1 hRp hG hHp hr6_0_0 hr6_0_1
      refine z_iconst C0 dX11_execute_59 ?_
      refine z_istore_n C0 hl [(1, .int (zI 0)), (0, .ref (ad 0))] (by decide) rfl dX11_execute_60 (fun ls hl => ?_)
      have aft61 : ∀ (k61 : Nat) (hk61 : (k61 : Int) ≤ ((mm : Int) + 1)) (M3 : zMem) (F3 : zMem) (hRk : zRS 1 (zVi T n V k61) M3 F3) (hHk : zHi zt many U M3 F3) (hPk : zRS (96 + 31 * M3 94 1) V M3 F3) (hFk : zFr Mp zFr1 M3 F3) (hok : ∀ i, i < k61 → zok T n V i) (hx61 : (k61 : Int) = ((mm : Int) + 1)) (H : Heap) (locs : List Loc) (ls : Array Slot) (Wd : zW g (zA (0, 398, zX) ad s.heap.size) s.heap (0, 398, zX) ad M3 F3 H locs) (hl : lv_has ls 2 [(0, .ref (ad 0)), (1, .int (zI (k61 : Int)))]), W p l e (zrm 10 1 6) s m args below meth c H locs 0 0 (zXQ below g (0, 398, zX) ad (zPi (fun r M' F' => zXN T n zt many V U zM0 zF0 r M' F')) (fun E M' F' => zXT T n zt many V U zM0 zF0 E M' F') args s 1 6) (F0 m 124 ls []) := by
        intro k61 hk61 M3 F3 hRk hHk hPk hFk hok hx61 H locs ls Wd hl
        replace hl : lv_has ls 2 [(0, .ref (ad 0))] := lv_sub hl [0] rfl
        have h3r : M3 375 = Mp 375 := (hFk 375 (by omega) (by omega)).1
        have h33 : M3 375 3 = (mm : Int) + 1 := (congrFun h3r _).trans hp3
        have hGk := zG_Vi (T := T) (n := n) hG ht.1 k61
        have hn3 := hHk.2.1
        refine z_aload_n C0 hl 0 rfl dX11_execute_124 ?_
        refine zg_8_3 C0 Wd zN0 zK0 zk_346 dX11_execute_125 ?_
        refine z_invVv (As := []) (rest := []) C0 Wd (ct_X8_keep l g zX ad M3 F3 hHk.2.1 (by rw [hHk.1]; exact hHk.2.2.1)) kv_X8_keep zN94 (zE_5 zK94) rfl zk_550 rfl hl.1 rfl (Nat.le_of_ble_eq_true rfl) (by decide) (by decide) dX11_execute_128 (fun zMr8 zFr8 H locs hp Wd => ?_)
        obtain ⟨rfl, rfl⟩ := hp
        refine z_aload_n C0 hl 0 rfl dX11_execute_131 ?_
        refine zg_8_4 C0 Wd zN0 zK0 zk_347 dX11_execute_132 ?_
        refine zg_3_3 C0 Wd zN375 zK375 zk_293 dX11_execute_135 ?_
        obtain ⟨he11, hz10⟩ : ((zu (zu M3 94 1 (znx (M3 94 1))) 94 2 (zm8 (M3 94 2))) 375 3) = ((mm : Int) + 1) ∧ zR ((mm : Int) + 1) := (fun q => ⟨q, q ▸ Wd.rm _ _⟩) ((zu_ne (by omega)).trans ((zu_ne (by omega)).trans h33))
        refine z_top (congrArg zI he11) ?_
        clear he11
        have ek9 : k61 = mm + 1 := by omega
        subst ek9
        obtain ⟨hz1, hz2, hz3⟩ := zFc_3 hG hGk.1 hRk hHk hPk hFk
        exact z_xret (z_iret C0 Wd hret hlk hz10 ⟨mm, ⟨hgo, hng⟩, hze, fun i a1 => hok i (by omega), rfl, hz1, hz2, (congrFun ((hz3 0 (by omega) (by omega)).1.trans hp0) _), (congrFun ((hz3 0 (by omega) (by omega)).1.trans hp0) _), fun i a1 => ⟨(hz3 i (by omega) (by omega)).1.trans (hxf i a1).1, (hz3 i (by omega) (by omega)).2.trans (hxf i a1).2⟩, fun j a1 a2 => (congrFun ((hz3 0 (by omega) (by omega)).1.trans hp0) _), (congrFun (hz3 375 (by omega) (by omega)).1 _).trans hp1⟩ dX11_execute_138) (by decide) (by decide)
      have lp61 : ∀ (d61 k61 : Nat) (hk61 : (k61 : Int) + d61 = ((mm : Int) + 1)) (M3 : zMem) (F3 : zMem) (hRk : zRS 1 (zVi T n V k61) M3 F3) (hHk : zHi zt many U M3 F3) (hPk : zRS (96 + 31 * M3 94 1) V M3 F3) (hFk : zFr Mp zFr1 M3 F3) (hok : ∀ i, i < k61 → zok T n V i) (H : Heap) (locs : List Loc) (ls : Array Slot) (Wd : zW g (zA (0, 398, zX) ad s.heap.size) s.heap (0, 398, zX) ad M3 F3 H locs) (hl : lv_has ls 2 [(0, .ref (ad 0)), (1, .int (zI (k61 : Int)))]), W p l e (zrm 10 1 6) s m args below meth c H locs 0 0 (zXQ below g (0, 398, zX) ad (zPi (fun r M' F' => zXN T n zt many V U zM0 zF0 r M' F')) (fun E M' F' => zXT T n zt many V U zM0 zF0 E M' F') args s 1 6) (F0 m 61 ls []) := by
        intro d61
        induction d61 with
        | zero =>
          intro k61 hk61 M3 F3 hRk hHk hPk hFk hok H locs ls Wd hl
          have h3r : M3 375 = Mp 375 := (hFk 375 (by omega) (by omega)).1
          have h33 : M3 375 3 = (mm : Int) + 1 := (congrFun h3r _).trans hp3
          have hGk := zG_Vi (T := T) (n := n) hG ht.1 k61
          have hn3 := hHk.2.1
          refine z_iload_n C0 hl 1 rfl dX11_execute_61 ?_
          refine z_aload_n C0 hl 0 rfl dX11_execute_62 ?_
          refine zg_8_4 C0 Wd zN0 zK0 zk_347 dX11_execute_63 ?_
          refine zg_3_3 C0 Wd zN375 zK375 zk_293 dX11_execute_66 ?_
          obtain ⟨he13, hz12⟩ : (M3 375 3) = ((mm : Int) + 1) ∧ zR ((mm : Int) + 1) := (fun q => ⟨q, q ▸ Wd.rm _ _⟩) h33
          refine z_top (congrArg zI he13) ?_
          clear he13
          refine z_icmp_ge C0 (tgt := 124) (zR_mk (by omega) (by omega)) hz12 dX11_execute_69 (by decide) (fun c14 => ?_) (fun c14 => ?_)
          · skip
            first | exact aft61 k61 (by omega) M3 F3 hRk hHk hPk hFk hok (by first | assumption | omega) _ _ _ Wd (lv_sub hl [0, 1] rfl) | (exfalso; omega)
          · skip
            exfalso; omega
        | succ d61 ih61 =>
          intro k61 hk61 M3 F3 hRk hHk hPk hFk hok H locs ls Wd hl
          have h3r : M3 375 = Mp 375 := (hFk 375 (by omega) (by omega)).1
          have h33 : M3 375 3 = (mm : Int) + 1 := (congrFun h3r _).trans hp3
          have hGk := zG_Vi (T := T) (n := n) hG ht.1 k61
          have hn3 := hHk.2.1
          refine z_iload_n C0 hl 1 rfl dX11_execute_61 ?_
          refine z_aload_n C0 hl 0 rfl dX11_execute_62 ?_
          refine zg_8_4 C0 Wd zN0 zK0 zk_347 dX11_execute_63 ?_
          refine zg_3_3 C0 Wd zN375 zK375 zk_293 dX11_execute_66 ?_
          obtain ⟨he16, hz15⟩ : (M3 375 3) = ((mm : Int) + 1) ∧ zR ((mm : Int) + 1) := (fun q => ⟨q, q ▸ Wd.rm _ _⟩) h33
          refine z_top (congrArg zI he16) ?_
          clear he16
          refine z_icmp_ge C0 (tgt := 124) (zR_mk (by omega) (by omega)) hz15 dX11_execute_69 (by decide) (fun c17 => ?_) (fun c17 => ?_)
          · skip
            first | exact aft61 k61 (by omega) M3 F3 hRk hHk hPk hFk hok (by first | assumption | omega) _ _ _ Wd (lv_sub hl [0, 1] rfl) | (exfalso; omega)
          · skip
            refine z_aload_n C0 hl 0 rfl dX11_execute_72 ?_
            refine z_aload_n C0 hl 0 rfl dX11_execute_73 ?_
            refine zg_8_4 C0 Wd zN0 zK0 zk_347 dX11_execute_74 ?_
            refine zg_3_2 C0 Wd zN375 zK375 zk_291 dX11_execute_77 ?_
            refine z_rf (show (375 + 2) = 377 by decide) ?_
            refine z_iload_n C0 hl 1 rfl dX11_execute_80 ?_
            refine z_aald14 C0 Wd zN377 zK377 zL377 (by omega) (by omega) (by decide) dX11_execute_81 ?_
            refine z_rf (show (377 + 1 + 2 * (k61 : Int)) = (378 + 2 * (k61 : Int)) by omega) ?_
            have hwt : zCm (378 + 2 * (k61 : Int)) := ⟨(k61 : Int), by omega, by omega, rfl⟩
            have hqk : 0 ≤ zEn T n (zAt T n k61) := by
                by_cases e9 : k61 = mm
                · rw [e9]; by_cases e8 : 0 ≤ zEn T n (zAt T n mm)
                  · exact e8
                  · exfalso
                    have e7 : zer T n mm = zps (zEn T n (zAt T n mm)) := if_neg (fun z => e8 z.1)
                    have e6 := zEn_in (T := T) (n := n) (a := zAt T n mm) (by omega) (by omega)
                    omega
                · exact (hgo k61 (by omega)).1
            have hck9 := hck k61 (by omega) hqk
            have hF3 : F3 (378 + 2 * (k61 : Int)) = zFr1 (378 + 2 * (k61 : Int)) := (hFk _ (by omega) (by omega)).2
            have hM3 : M3 ((378 + 2 * (k61 : Int)) + 1) = zMr1 ((378 + 2 * (k61 : Int)) + 1) := ((hFk _ (by omega) (by omega)).1).trans (hpr _ (by omega))
            have hF0 : F3 (378 + 2 * (k61 : Int)) 0 = 10 + zkn T n (zAt T n k61) := (congrFun hF3 _).trans hck9.1
            refine z_invVe (As := [.ref (ad (378 + 2 * (k61 : Int)))]) (rest := []) C0 Wd (ct_X11_perform l g zX ad M3 F3 (zVi T n V k61) (zt + 680 * (k61 : Int)) (378 + 2 * (k61 : Int)) (zkn T n (zAt T n k61)) hwt hRk hGk (by omega) zkn_bd hF0) kv_X11_perform zN0 (zE_8 zK0) rfl zk_1590 rfl hl.1 rfl (Nat.le_of_ble_eq_true rfl) (by decide) (by decide) dX11_execute_82 (fun r18 zMr18 zFr18 H locs hp Wd => ?_)
            obtain ⟨hft, hrs, hot⟩ := hp
            have hkb := zkn_bd (T := T) (n := n) (a := zAt T n k61)
            have hdx : zdC (zkn T n (zAt T n k61)) (M3 ((378 + 2 * (k61 : Int)) + 1) 0) (M3 ((378 + 2 * (k61 : Int)) + 1) 1) (M3 ((378 + 2 * (k61 : Int)) + 1) 2) (zVi T n V k61) = zdX T n k61 (zVi T n V k61) := zdC_args (r := fun j => M3 ((378 + 2 * (k61 : Int)) + 1) j) (r' := fun j => zka T n (zAt T n k61) j) hkb.1 hkb.2 (fun j j0 j1 => (congrFun hM3 _).trans (hck9.2 j j0 j1))
            have hdf := zdC_f (a := M3 ((378 + 2 * (k61 : Int)) + 1) 0) (b := M3 ((378 + 2 * (k61 : Int)) + 1) 1) (c := M3 ((378 + 2 * (k61 : Int)) + 1) 2) (V := zVi T n V k61) hkb.1 hkb.2
            rw [hdx] at hft hrs hdf
            have hfp := zfL_pos hkb.1 hkb.2
            have hfb := zFt_bd (fun x hx => ⟨by have := hfp x hx; omega, (hfp x hx).2⟩) hft
            have hf0 := zFt_0 (fun x hx => (hfp x hx).1) hdf.1 hdf.2 hft
            obtain ⟨hHb, hPb, hFb⟩ := zFc_2 hG hHk hPk hFk hot
            refine z_gets C0 Wd (zc_F0 C0) zk_1600 dX11_execute_85 ?_
            refine z_acmpE C0 (tgt := 118) (r := r18) (by omega) (by omega) dX11_execute_88 (by decide) (fun c20 => ?_) (fun c20 => ?_)
            · skip
              refine z_iinc C0 hl 1 (t := (k61 : Int)) (u := ((k61 : Int) + 1)) rfl (by omega) [(1, .int (zI ((k61 : Int) + 1))), (0, .ref (ad 0))] (by decide) rfl dX11_execute_118 (fun ls hl => ?_)
              refine z_goto C0 (tgt := 61) dX11_execute_121 (by decide) ?_
              exact ih61 (k61 + 1) (by omega) zMr18 zFr18 hrs hHb hPb hFb (fun i a1 => by
                  by_cases e9 : i = k61
                  · rw [e9]; exact hf0.mp (by assumption)
                  · exact hok i (by omega)) _ _ _ Wd (lv_sub hl [1, 0] rfl)
            · skip
              refine z_aload_n C0 hl 0 rfl dX11_execute_91 ?_
              refine zg_8_3 C0 Wd zN0 zK0 zk_346 dX11_execute_92 ?_
              refine z_aload_n C0 hl 0 rfl dX11_execute_95 ?_
              refine zg_8_0 C0 Wd zN0 zK0 zk_343 dX11_execute_96 ?_
              refine z_invVv (As := [.ref (ad 1)]) (rest := []) C0 Wd (ct_X8_copyPreparedTo l g zX ad zMr18 zFr18 1 zB_1 V zt hPb hG.1 hHb.2.1 (zRp_of hrs) (by omega)) kv_X8_copyPreparedTo zN94 (zE_5 zK94) rfl zk_1601 rfl hl.1 rfl (Nat.le_of_ble_eq_true rfl) (by decide) (by decide) dX11_execute_99 (fun zMr21 zFr21 H locs hp Wd => ?_)
              rcases hp with ⟨M1_r21, hr21_0_0, hr21_0_1, rfl, rfl⟩
              · skip
                refine z_aload_n C0 hl 0 rfl dX11_execute_102 ?_
                refine z_iload_n C0 hl 1 rfl dX11_execute_103 ?_
                refine zp_8_8 C0 Wd zN0 zK0 (zR_mk (by omega) (by omega)) zk_350 dX11_execute_104 (fun H locs Wd => ?_)
                exact z_throwE (k := 3) C0 Wd hst hl.1 zTh_U (zc_r C0 (q := ("DrumWarren", 348, "a command fails", 214)) (List.mem_of_getElem? (i := 26) rfl)) hno hlk dX11_execute_107 dX11_execute_110 (Or.inr ⟨rfl, dX11_execute_111⟩) dX11_execute_114 dX11_execute_117 (by decide) (by decide) (by decide) (by decide) (by refine ⟨mm, ⟨hgo, hng⟩, Or.inr ⟨rfl, hze, (zu_ne (by omega)).trans ((congrFun ((hr21_0_1 0 (by omega)).1.trans ((hFb 0 (by omega) (by omega)).1.trans hp0)) _)), k61, by omega, hok, fun z => by have z9 : (zdX T n k61 (zVi T n V k61)).1 = 0 := z; have := hf0.mpr z9; omega, zu_same _ _ _ _⟩, zRS_in hr21_0_0 hG.v1 hG.v2 (fun i i0 i1 => ⟨zu_row (by omega), rfl⟩), zHi_in hHb (fun i i0 i1 => ⟨(zu_row (by omega)).trans (hr21_0_1 i (by omega)).1, (hr21_0_1 i (by omega)).2⟩), fun i a1 => ⟨(zu_row (by omega)).trans ((hr21_0_1 i (by omega)).1.trans ((hFb i (by omega) (by omega)).1.trans (hxf i a1).1)), (hr21_0_1 i (by omega)).2.trans ((hFb i (by omega) (by omega)).2.trans (hxf i a1).2)⟩, fun j a1 a2 => (zu_ne (by omega)).trans (congrFun ((hr21_0_1 0 (by omega)).1.trans ((hFb 0 (by omega) (by omega)).1.trans hp0)) _), (zu_ne (by omega)).trans ((congrFun ((hr21_0_1 375 (by omega)).1.trans (hFb 375 (by omega) (by omega)).1) _).trans hp1)⟩)
      exact lp61 (((mm : Int) + 1)).toNat 0 (by omega) M1_r6 zFr1 hRa hHa hPa hFa (fun i a1 => absurd a1 (Nat.not_lt_zero i)) _ _ _ Wd (lv_sub hl [1, 0] rfl)
  · skip
    refine z_aload_n C0 hl 0 rfl dX11_execute_26 ?_
    refine z_aload_n C0 hl 0 rfl dX11_execute_27 ?_
    refine zg_8_4 C0 Wd zN0 zK0 zk_347 dX11_execute_28 ?_
    refine zg_3_4 C0 Wd zN375 zK375 zk_295 dX11_execute_31 ?_
    obtain ⟨he24, hz23⟩ : (Mp 375 4) = (zer T n mm) ∧ zR (zer T n mm) := (fun q => ⟨q, q ▸ Wd.rm _ _⟩) hp4
    refine z_top (congrArg zI he24) ?_
    clear he24
    refine zp_8_7 C0 Wd zN0 zK0 hz23 zk_349 dX11_execute_34 (fun H locs Wd => ?_)
    exact z_throwE (k := 3) C0 Wd hst hl.1 zTh_A (zc_r C0 (q := ("DrumWarren", 326, "the text is malformed", 213)) (List.mem_of_getElem? (i := 25) rfl)) hno hlk dX11_execute_37 dX11_execute_40 (Or.inr ⟨rfl, dX11_execute_41⟩) dX11_execute_44 dX11_execute_47 (by decide) (by decide) (by decide) (by decide) (by refine ⟨mm, ⟨hgo, hng⟩, Or.inl ⟨rfl, by omega, zu_same _ _ _ _, (zu_ne (by omega)).trans (congrFun hp0 _)⟩, zRS_in hRp hG.v1 hG.v2 (fun i i0 i1 => ⟨zu_row (by omega), rfl⟩), zHi_in hHp (fun i i0 i1 => ⟨zu_row (by omega), rfl⟩), fun i a1 => ⟨(zu_row (by omega)).trans (hxf i a1).1, (hxf i a1).2⟩, fun j a1 a2 => (zu_ne (by omega)).trans (congrFun hp0 _), (zu_ne (by omega)).trans hp1⟩)
