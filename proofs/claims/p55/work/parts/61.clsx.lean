/-! the class: refuse, existing -/
theorem zc_FOi {g : zG} {A : Nat → Prop} {p : Program} {s : State} {m : MethodId} {args : Array Value} {c : Code} {cc : ByteArray} {nL : Nat} {own : String} (C0 : zC g A p s m args c cc nL own) {f : Int} (h0 : 0 ≤ f) (h1 : f < 5) : va_O "DrumWarren$Fault" (g.2.2.2 f) A s s.heap ∧ va_OF "java/lang/Enum" "ordinal" "I" (.int (zI f)) (g.2.2.2 f) A s s.heap := by
  have e : f = 0 ∨ f = 1 ∨ f = 2 ∨ f = 3 ∨ f = 4 := by omega
  rcases e with rfl | rfl | rfl | rfl | rfl
  · exact zc_FO C0 0 (by decide)
  · exact zc_FO C0 1 (by decide)
  · exact zc_FO C0 2 (by decide)
  · exact zc_FO C0 3 (by decide)
  · exact zc_FO C0 4 (by decide)
theorem zc_KOi {g : zG} {A : Nat → Prop} {p : Program} {s : State} {m : MethodId} {args : Array Value} {c : Code} {cc : ByteArray} {nL : Nat} {own : String} (C0 : zC g A p s m args c cc nL own) {f : Int} (h0 : 10 ≤ f) (h1 : f < 18) : va_O "DrumWarren$CommandKind" (g.2.2.2 f) A s s.heap ∧ va_OF "java/lang/Enum" "ordinal" "I" (.int (zI (f - 10))) (g.2.2.2 f) A s s.heap ∧ va_OF "DrumWarren$CommandKind" "form" "Ljava/lang/String;" (.ref (g.2.2.2 (f + 10))) (g.2.2.2 f) A s s.heap := by
  have e : f = 10 ∨ f = 11 ∨ f = 12 ∨ f = 13 ∨ f = 14 ∨ f = 15 ∨ f = 16 ∨ f = 17 := by omega
  rcases e with rfl | rfl | rfl | rfl | rfl | rfl | rfl | rfl
  · exact zc_KO C0 0 (by decide)
  · exact zc_KO C0 1 (by decide)
  · exact zc_KO C0 2 (by decide)
  · exact zc_KO C0 3 (by decide)
  · exact zc_KO C0 4 (by decide)
  · exact zc_KO C0 5 (by decide)
  · exact zc_KO C0 6 (by decide)
  · exact zc_KO C0 7 (by decide)
theorem zKU_ordF : zKU ⟨"DrumWarren$Fault", "ordinal", "()I"⟩ yJx29ce0_ordinal_8abf5 cJx29ce0_ordinal_8abf5 1 (some .int) "DrumWarren$Fault" "java/lang/Enum" 0 := ⟨by decide +kernel, by decide +kernel, by decide +kernel, by decide +kernel, by decide +kernel, rfl, by decide, by decide, by decide +kernel⟩
theorem zKU_ordK : zKU ⟨"DrumWarren$CommandKind", "ordinal", "()I"⟩ yJx29ce0_ordinal_8abf5 cJx29ce0_ordinal_8abf5 1 (some .int) "DrumWarren$CommandKind" "java/lang/Enum" 0 := ⟨by decide +kernel, by decide +kernel, by decide +kernel, by decide +kernel, by decide +kernel, rfl, by decide, by decide, by decide +kernel⟩
/-- the class that a fault is told by -/
def zFx (f : Int) : String := if f = 1 then "java/lang/IndexOutOfBoundsException" else if f = 2 then "java/util/NoSuchElementException" else if f = 3 then "java/lang/IllegalArgumentException" else "java/lang/IllegalStateException"
set_option maxHeartbeats 4000000 in
set_option maxRecDepth 100000 in
theorem ct_Jx29ce0_ordinal_8abf5_F (l : Launch) (g : zG) (N : zNs) (zb6 : zIn N 396) (zb7 : zIn N 397) (ad : Int → Nat) (zM0 zF0 : zMem) (f : Int) (hf0 : 0 ≤ f) (hf1 : f < 5) : zMt l yJx29ce0_ordinal_8abf5 cJx29ce0_ordinal_8abf5 1 (some .int) 0 0 0 g N ad [.ref (g.2.2.2 f)] zM0 zF0 (zPi (fun r M' F' => f = r ∧ zM0 = M' ∧ zF0 = F')) := by
  refine zMt.of "java/lang/Enum" rfl (by decide +kernel) (Nat.le_of_ble_eq_true rfl) (fun {p e s m args below meth c ls} C0 Wd hl hret hlk hin => ?_)
  have hl : lv_has ls 1 [(0, .ref (g.2.2.2 f))] := hl
  refine z_aload_n C0 hl 0 rfl dJx29ce0_ordinal_8abf5_0 ?_
  refine z_getO C0 Wd (zc_FOi C0 hf0 hf1).2 zk_1660 dJx29ce0_ordinal_8abf5_1 ?_
  exact z_iret C0 Wd hret hlk (zR_mk (by omega) (by omega)) ⟨by first | rfl | (simp only [zb]; first | rfl | (split <;> omega) | omega) | (simp [zb, *]; done) | omega, by first | rfl | (simp [zb, *]; done), rfl⟩ dJx29ce0_ordinal_8abf5_4
set_option maxHeartbeats 4000000 in
set_option maxRecDepth 100000 in
theorem ct_Jx29ce0_ordinal_8abf5_K (l : Launch) (g : zG) (N : zNs) (zb6 : zIn N 396) (zb7 : zIn N 397) (ad : Int → Nat) (zM0 zF0 : zMem) (f : Int) (hf0 : 10 ≤ f) (hf1 : f < 18) : zMt l yJx29ce0_ordinal_8abf5 cJx29ce0_ordinal_8abf5 1 (some .int) 0 0 0 g N ad [.ref (g.2.2.2 f)] zM0 zF0 (zPi (fun r M' F' => (f - 10) = r ∧ zM0 = M' ∧ zF0 = F')) := by
  refine zMt.of "java/lang/Enum" rfl (by decide +kernel) (Nat.le_of_ble_eq_true rfl) (fun {p e s m args below meth c ls} C0 Wd hl hret hlk hin => ?_)
  have hl : lv_has ls 1 [(0, .ref (g.2.2.2 f))] := hl
  refine z_aload_n C0 hl 0 rfl dJx29ce0_ordinal_8abf5_0 ?_
  refine z_getO C0 Wd (zc_KOi C0 hf0 hf1).2.1 zk_1660 dJx29ce0_ordinal_8abf5_1 ?_
  exact z_iret C0 Wd hret hlk (zR_mk (by omega) (by omega)) ⟨by first | rfl | (simp only [zb]; first | rfl | (split <;> omega) | omega) | (simp [zb, *]; done) | omega, by first | rfl | (simp [zb, *]; done), rfl⟩ dJx29ce0_ordinal_8abf5_4
theorem kv_X11_refuse : zKS yX11_refuse cX11_refuse 1 none 1 := ⟨zk_421, zk_420, zk_25, by decide, by decide, by decide +kernel⟩
set_option maxHeartbeats 4000000 in
set_option maxRecDepth 100000 in
theorem ct_X11_refuse (l : Launch) (g : zG) (zX : va_W) (ad : Int → Nat) (zM0 zF0 : zMem) (f : Int) (hf0 : 0 ≤ f) (hf1 : f < 5) : zMx l yX11_refuse cX11_refuse 1 none 6 1 6 g (0, 398, zX) ad [.ref (g.2.2.2 f)] zM0 zF0 (zPv (fun M' F' => ((f = 0) ∧ zM0 = M' ∧ zF0 = F'))) (fun E M' F' => E = zFx f ∧ 0 < f ∧ zM0 = M' ∧ zF0 = F') := by
  refine zMx.of "DrumWarren" rfl (by decide +kernel) (Nat.le_of_ble_eq_true rfl) (fun {p e s m args below meth c ls} C0 Wd hl hret hlk hin hst hno => ?_)
  have hl : lv_has ls 1 [(0, .ref (g.2.2.2 f))] := hl
  refine z_gets C0 Wd (zc_S0 C0) zk_422 dX11_refuse_0 ?_
  refine z_aload_n C0 hl 0 rfl dX11_refuse_3 ?_
  refine z_invU (As := []) (rest := [.ref (g.2.2.2 100)]) C0 Wd (ct_Jx29ce0_ordinal_8abf5_F l g (0, 398, zX) zN396 zN397 ad zM0 zF0 f (by omega) (by omega)) zKU_ordF (zrecvO C0 Wd (zc_FOi C0 hf0 hf1).1) zk_424 rfl hl.1 rfl (Nat.le_of_ble_eq_true rfl) (by decide) (by decide) dX11_refuse_4 (z_kki (fun r1 zMr1 zFr1 H locs hrr1 hp Wd => ?_))
  obtain ⟨rfl, rfl, rfl⟩ := hp
  refine z_tabi C0 Wd (zc_T0 C0) (by omega) (by omega) (by decide) (by show Value.int (zI ((f.toNat : Nat) : Int)) = _; rw [Int.toNat_of_nonneg (by omega)]) dX11_refuse_7 ?_
  refine z_table C0 (zR_mk (by omega) (by omega)) dX11_refuse_8 (by decide) (fun v => if v = 1 then 40 else (if v = 2 then 51 else (if v = 3 then 62 else (if v = 4 then 73 else 84)))) (by decide) (fun v hv => by show (if v = 1 then 40 else (if v = 2 then 51 else (if v = 3 then 62 else (if v = 4 then 73 else 84))) : Nat) = 84; rw [if_neg (by omega), if_neg (by omega), if_neg (by omega), if_neg (by omega)]) (by decide) ?_
  refine z_ite (fun t3 => ?_) (fun t3 => ?_)
  · skip
    exact z_throwE (k := 3) C0 Wd hst hl.1 zTh_I (zc_r C0 (q := ("DrumWarren", 378, "no such chamber or hare", 219)) (List.mem_of_getElem? (i := 28) rfl)) hno hlk dX11_refuse_40 dX11_refuse_43 (Or.inr ⟨rfl, dX11_refuse_44⟩) dX11_refuse_47 dX11_refuse_50 (by decide) (by decide) (by decide) (by decide) ⟨by unfold zFx; rw [if_pos (by omega)], by omega, rfl, rfl⟩
  refine z_ite (fun t4 => ?_) (fun t4 => ?_)
  · skip
    exact z_throwE (k := 3) C0 Wd hst hl.1 zTh_N (zc_r C0 (q := ("DrumWarren", 380, "no such tunnel or message", 220)) (List.mem_of_getElem? (i := 29) rfl)) hno hlk dX11_refuse_51 dX11_refuse_54 (Or.inr ⟨rfl, dX11_refuse_55⟩) dX11_refuse_58 dX11_refuse_61 (by decide) (by decide) (by decide) (by decide) ⟨by unfold zFx; rw [if_neg (by omega), if_pos (by omega)], by omega, rfl, rfl⟩
  refine z_ite (fun t5 => ?_) (fun t5 => ?_)
  · skip
    exact z_throwE (k := 3) C0 Wd hst hl.1 zTh_A (zc_r C0 (q := ("DrumWarren", 382, "an argument is not allowed", 221)) (List.mem_of_getElem? (i := 30) rfl)) hno hlk dX11_refuse_62 dX11_refuse_65 (Or.inr ⟨rfl, dX11_refuse_66⟩) dX11_refuse_69 dX11_refuse_72 (by decide) (by decide) (by decide) (by decide) ⟨by unfold zFx; rw [if_neg (by omega), if_neg (by omega), if_pos (by omega)], by omega, rfl, rfl⟩
  refine z_ite (fun t6 => ?_) (fun t6 => ?_)
  · skip
    exact z_throwE (k := 3) C0 Wd hst hl.1 zTh_S (zc_r C0 (q := ("DrumWarren", 384, "the warren does not allow this now", 222)) (List.mem_of_getElem? (i := 31) rfl)) hno hlk dX11_refuse_73 dX11_refuse_76 (Or.inr ⟨rfl, dX11_refuse_77⟩) dX11_refuse_80 dX11_refuse_83 (by decide) (by decide) (by decide) (by decide) ⟨by unfold zFx; rw [if_neg (by omega), if_neg (by omega), if_neg (by omega)], by omega, rfl, rfl⟩
  exact z_xret (z_vret C0 Wd hret hlk (by first | exact ⟨(by first | assumption | omega), (by first | rfl | (simp [zb, *]; done)), rfl⟩) dX11_refuse_84) (by decide) (by decide)
theorem kv_X11_existing : zKV yX11_existing cX11_existing 3 (some (.object "DrumWarren$Message")) "DrumWarren" 1 := ⟨zk_893, zk_892, zk_14, zk_25, by decide, by decide, by decide +kernel⟩
set_option maxHeartbeats 4000000 in
set_option maxRecDepth 100000 in
theorem ct_X11_existing (l : Launch) (g : zG) (zX : va_W) (ad : Int → Nat) (zM0 zF0 : zMem) (V : Int → Int) (zt : Int) (x0 : Int) (hx0 : zR x0) (hR : zRS 1 V zM0 zF0) (hI : zIV zt V) (hU : zId V) : zMx l yX11_existing cX11_existing 3 (some (.object "DrumWarren$Message")) 6 1 6 g (0, 398, zX) ad [.ref (ad 0), .int (zI x0)] zM0 zF0 (zPr ad (fun r M' F' => ((zpl x0 V ≠ -1) ∧ (zF0 7 (zpl x0 V)) = r ∧ zM0 = M' ∧ zF0 = F'))) (fun E M' F' => E = "java/util/NoSuchElementException" ∧ ¬ (zpl x0 V ≠ -1) ∧ zM0 = M' ∧ zF0 = F') := by
  refine zMx.of "DrumWarren" rfl (by decide +kernel) (Nat.le_of_ble_eq_true rfl) (fun {p e s m args below meth c ls} C0 Wd hl hret hlk hin hst hno => ?_)
  have hl : lv_has ls 3 [(0, .ref (ad 0)), (1, .int (zI x0))] := hl
  have h0b := hI.1
  have h1b := hI.2.1
  have h2b := hI.2.2.1
  refine z_aload_n C0 hl 0 rfl dX11_existing_0 ?_
  refine zg_8_0 C0 Wd zN0 zK0 zk_343 dX11_existing_1 ?_
  refine z_iload_n C0 hl 1 rfl dX11_existing_4 ?_
  refine z_invVi (As := [.int (zI x0)]) (rest := []) C0 Wd (ct_X10_positionOf l g zX ad zM0 zF0 1 zB_1 V zt x0 hx0 hR hI hU.ne) kv_X10_positionOf zN1 (zE_7 zK1) rfl zk_894 rfl hl.1 rfl (Nat.le_of_ble_eq_true rfl) (by decide) (by decide) dX11_existing_5 (fun r1 zMr1 zFr1 H locs hrr1 hp Wd => ?_)
  obtain ⟨rfl, rfl, rfl⟩ := hp
  have hpl : -1 ≤ zpl x0 V ∧ zpl x0 V < V 2 := by have := zlast_bd (P := fun q => V (96 + 47 * q + 0) = x0) (V 2).toNat; show -1 ≤ zlast _ _ ∧ zlast _ _ < V 2; omega
  refine z_istore_n C0 hl [(2, .int (zI (zpl x0 V))), (0, .ref (ad 0)), (1, .int (zI x0))] (by decide) rfl dX11_existing_8 (fun ls hl => ?_)
  refine z_iload_n C0 hl 0 rfl dX11_existing_9 ?_
  refine z_iconst C0 dX11_existing_10 ?_
  refine z_icmp_ne C0 (tgt := 25) hrr1 (zR_mk (by decide) (by decide)) dX11_existing_11 (by decide) (fun c3 => ?_) (fun c3 => ?_)
  · skip
    refine z_aload_n C0 hl 1 rfl dX11_existing_25 ?_
    refine zg_8_0 C0 Wd zN0 zK0 zk_343 dX11_existing_26 ?_
    refine zg_7_3 C0 Wd zN1 zK1 zk_199 dX11_existing_29 ?_
    refine z_rf (show (1 + 6) = 7 by decide) ?_
    refine z_iload_n C0 hl 0 rfl dX11_existing_32 ?_
    refine z_aald16 C0 Wd zN7 zK7 zL7 (by omega) (by omega) (by decide) dX11_existing_33 ?_
    exact z_xret (z_aret C0 Wd hret hlk (by first | exact ⟨(by first | assumption | omega), (by first | rfl | omega), (by first | rfl | (simp [zb, *]; done)), rfl⟩) dX11_existing_34) (by decide) (by decide)
  · skip
    exact z_throwE (k := 3) C0 Wd hst hl.1 zTh_N (zc_r C0 (q := ("DrumWarren", 403, "no such message", 227)) (List.mem_of_getElem? (i := 36) rfl)) hno hlk dX11_existing_14 dX11_existing_17 (Or.inr ⟨rfl, dX11_existing_18⟩) dX11_existing_21 dX11_existing_24 (by decide) (by decide) (by decide) (by decide) ⟨rfl, (by first | assumption | omega), rfl, rfl⟩
