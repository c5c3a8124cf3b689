/-! the law's loop -/
set_option maxHeartbeats 8000000 in
set_option maxRecDepth 100000 in
theorem law_loop {g : zG} {ad : Int → Nat} {p : Program} {l : Launch} {e : Env} {R : Room} {s : State} {m : MethodId} {below : List Frame} {meth : Method} {c : Code} {Q : State → Prop} {b L : Nat} {xs : Nat → Int32} (C0 : zC g (fun q => s.heap.size ≤ q) p s m #[.ref b] c cL_law 9 "DrumWarrenLaw") (hX : va_X b L xs s s.heap) (hbl : b < s.heap.size) (hL : L ≤ 2048) (hst : l.stackTraces = false) (hR : 100 ≤ R.frames ∧ 10000 ≤ R.locals) (hRc : 5000 ≤ R.cells ∧ 200000 ≤ R.slots)
    (hend : ∀ (H1 : Heap) (locs1 : List Loc) (ls1 : Array Slot) (c1 s1 : Nat), va_S (fun q => s.heap.size ≤ q) s.heap H1 locs1 → c1 ≤ 5000 → s1 ≤ 200000 → W p l e R s m #[.ref b] below meth c H1 locs1 c1 s1 Q (F0 m 2908 ls1 [])) :
    ∀ (n k : Nat), L < 4 * (k + n) → ∀ (H : Heap) (locs : List Loc) (cells slots : Nat) (ls : Array Slot) (M F : zMem), cells ≤ 3000 + 3 * k → slots ≤ 100000 + 18 * k → k ≤ 512 → zW g (fun q => s.heap.size ≤ q) s.heap 410 ad M F H locs → lv_has ls 9 [(5, .int (zI (4 * (k : Int)))), (0, .ref b), (1, .ref (ad 0)), (2, .ref (ad 398)), (3, .ref (ad 408)), (4, .ref (ad 409))] → zCR (7000 * (k : Int)) (9 * (k : Int)) M F → W p l e R s m #[.ref b] below meth c H locs cells slots Q (F0 m 28 ls []) := by
  have hbA : ¬ (fun q => s.heap.size ≤ q) b := Nat.not_le.mpr hbl
  intro n
  induction n with
  | zero =>
    intro k hk H locs cells slots ls M F h1 h2 h3 Wd hl h
    refine z_iload C0 hl 0 rfl dL_law_28 ?_
    refine z_aload_n C0 hl 1 rfl dL_law_30 ?_
    refine va_slen C0.1.1 C0.1.2.1 hX hbl hbA Wd.1.2.2 dL_law_31 ?_
    rw [show Int32.ofNat L = zI (L : Int) from (zI_nI L).symm]
    refine z_iconst C0 dL_law_32 ?_
    refine z_isub C0 dL_law_33 ?_
    refine z_icmp_gt C0 (tgt := 2908) (zR_mk (by omega) (by omega)) (zR_mk (by omega) (by omega)) dL_law_34 (by decide) (fun _ => hend _ _ _ _ _ Wd.1.2.2 (by omega) (by omega)) (fun c1 => ?_)
    omega
  | succ n ih =>
    intro k hk H locs cells slots ls M F h1 h2 h3 Wd hl h
    refine z_iload C0 hl 0 rfl dL_law_28 ?_
    refine z_aload_n C0 hl 1 rfl dL_law_30 ?_
    refine va_slen C0.1.1 C0.1.2.1 hX hbl hbA Wd.1.2.2 dL_law_31 ?_
    rw [show Int32.ofNat L = zI (L : Int) from (zI_nI L).symm]
    refine z_iconst C0 dL_law_32 ?_
    refine z_isub C0 dL_law_33 ?_
    refine z_icmp_gt C0 (tgt := 2908) (zR_mk (by omega) (by omega)) (zR_mk (by omega) (by omega)) dL_law_34 (by decide) (fun _ => hend _ _ _ _ _ Wd.1.2.2 (by omega) (by omega)) (fun c1 => ?_)
    have kk : ∀ (M' F' : zMem) (H1 : Heap) (locs1 : List Loc) (ls1 : Array Slot) (c1 s1 : Nat), zCR (7000 * (k : Int) + 7000) (9 * (k : Int) + 9) M' F' → zW g (fun q => s.heap.size ≤ q) s.heap 410 ad M' F' H1 locs1 → lv_has ls1 9 [(5, .int (zI (4 * (k : Int)))), (0, .ref b), (1, .ref (ad 0)), (2, .ref (ad 398)), (3, .ref (ad 408)), (4, .ref (ad 409))] → c1 ≤ cells + 3 → s1 ≤ slots + 18 → W p l e R s m #[.ref b] below meth c H1 locs1 c1 s1 Q (F0 m 2902 ls1 []) := by
      intro M' F' H1 locs1 ls1 c1 s1 q1 Wd q3 q4 q5
      refine z_iinc C0 q3 0 (t := 4 * (k : Int)) (u := 4 * ((k + 1 : Nat) : Int)) rfl (by omega) [(5, .int (zI (4 * ((k + 1 : Nat) : Int)))), (0, .ref b), (1, .ref (ad 0)), (2, .ref (ad 398)), (3, .ref (ad 408)), (4, .ref (ad 409))] (by decide) rfl dL_law_2902 (fun ls hl => ?_)
      refine z_goto C0 (tgt := 28) dL_law_2905 (by decide) ?_
      exact ih (k + 1) (by omega) H1 locs1 c1 s1 ls M' F' (by omega) (by omega) (by omega) Wd hl (zCR_up q1 (by omega) (by omega))
    refine z_aload_n C0 hl 1 rfl dL_law_37 ?_
    refine z_iload C0 hl 0 rfl dL_law_38 ?_
    refine z_sld C0 Wd hX hbl hbA (by omega) (by omega) hL dL_law_40 ?_
    refine z_bipush C0 dL_law_41 (by decide) ?_
    refine z_iand C0 (z_63 (sx_R _ _)) dL_law_43 ?_
    obtain ⟨v, hv⟩ : ∃ v, v = sx xs (4 * (k : Int)) % 64 := ⟨_, rfl⟩
    rw [← hv]
    have hvb : 0 ≤ v ∧ v < 64 := by omega
    have hcs : 52 ≤ v ∨ v = 0 ∨ v = 1 ∨ v = 2 ∨ v = 3 ∨ v = 4 ∨ v = 5 ∨ v = 6 ∨ v = 7 ∨ v = 8 ∨ v = 9 ∨ v = 10 ∨ v = 11 ∨ v = 12 ∨ v = 13 ∨ v = 14 ∨ v = 15 ∨ v = 16 ∨ v = 17 ∨ v = 18 ∨ v = 19 ∨ v = 20 ∨ v = 21 ∨ v = 22 ∨ v = 23 ∨ v = 24 ∨ v = 25 ∨ v = 26 ∨ v = 27 ∨ v = 28 ∨ v = 29 ∨ v = 30 ∨ v = 31 ∨ v = 32 ∨ v = 33 ∨ v = 34 ∨ v = 35 ∨ v = 36 ∨ v = 37 ∨ v = 38 ∨ v = 39 ∨ v = 40 ∨ v = 41 ∨ v = 42 ∨ v = 43 ∨ v = 44 ∨ v = 45 ∨ v = 46 ∨ v = 47 ∨ v = 48 ∨ v = 49 ∨ v = 50 ∨ v = 51 := by omega
    have hf : cells + 3 ≤ R.cells ∧ slots + 18 ≤ R.slots := ⟨by omega, by omega⟩
    rcases hcs with h9 | h9 | h9 | h9 | h9 | h9 | h9 | h9 | h9 | h9 | h9 | h9 | h9 | h9 | h9 | h9 | h9 | h9 | h9 | h9 | h9 | h9 | h9 | h9 | h9 | h9 | h9 | h9 | h9 | h9 | h9 | h9 | h9 | h9 | h9 | h9 | h9 | h9 | h9 | h9 | h9 | h9 | h9 | h9 | h9 | h9 | h9 | h9 | h9 | h9 | h9 | h9 | h9
    · exact lv_tableOut (tgt := 2902) C0.1.1 C0.1.2.1 dL_law_44 (Or.inr (by rw [zI_toInt (by omega) (by omega)]; omega)) (by decide) (kk M F H locs ls cells slots (zCR_up h (by omega) (by omega)) Wd hl (by omega) (by omega))
    · rw [h9]; exact lv_tableIn (off := 224) (tgt := 268) C0.1.1 C0.1.2.1 dL_law_44 (by decide) (by decide) rfl (by decide) (cs_0 C0 hX hbl hL hst hR hf Wd hl h (by omega) (by omega) (by omega) (by omega) kk)
    · rw [h9]; exact lv_tableIn (off := 268) (tgt := 312) C0.1.1 C0.1.2.1 dL_law_44 (by decide) (by decide) rfl (by decide) (cs_1 C0 hX hbl hL hst hR hf Wd hl h (by omega) (by omega) (by omega) (by omega) kk)
    · rw [h9]; exact lv_tableIn (off := 348) (tgt := 392) C0.1.1 C0.1.2.1 dL_law_44 (by decide) (by decide) rfl (by decide) (cs_2 C0 hX hbl hL hst hR hf Wd hl h (by omega) (by omega) (by omega) (by omega) kk)
    · rw [h9]; exact lv_tableIn (off := 416) (tgt := 460) C0.1.1 C0.1.2.1 dL_law_44 (by decide) (by decide) rfl (by decide) (cs_3 C0 hX hbl hL hst hR hf Wd hl h (by omega) (by omega) (by omega) (by omega) kk)
    · rw [h9]; exact lv_tableIn (off := 429) (tgt := 473) C0.1.1 C0.1.2.1 dL_law_44 (by decide) (by decide) rfl (by decide) (cs_4 C0 hX hbl hL hst hR hf Wd hl h (by omega) (by omega) (by omega) (by omega) kk)
    · rw [h9]; exact lv_tableIn (off := 442) (tgt := 486) C0.1.1 C0.1.2.1 dL_law_44 (by decide) (by decide) rfl (by decide) (cs_5 C0 hX hbl hL hst hR hf Wd hl h (by omega) (by omega) (by omega) (by omega) kk)
    · rw [h9]; exact lv_tableIn (off := 510) (tgt := 554) C0.1.1 C0.1.2.1 dL_law_44 (by decide) (by decide) rfl (by decide) (cs_6 C0 hX hbl hL hst hR hf Wd hl h (by omega) (by omega) (by omega) (by omega) kk)
    · rw [h9]; exact lv_tableIn (off := 578) (tgt := 622) C0.1.1 C0.1.2.1 dL_law_44 (by decide) (by decide) rfl (by decide) (cs_7 C0 hX hbl hL hst hR hf Wd hl h (by omega) (by omega) (by omega) (by omega) kk)
    · rw [h9]; exact lv_tableIn (off := 646) (tgt := 690) C0.1.1 C0.1.2.1 dL_law_44 (by decide) (by decide) rfl (by decide) (cs_8 C0 hX hbl hL hst hR hf Wd hl h (by omega) (by omega) (by omega) (by omega) kk)
    · rw [h9]; exact lv_tableIn (off := 736) (tgt := 780) C0.1.1 C0.1.2.1 dL_law_44 (by decide) (by decide) rfl (by decide) (cs_9 C0 hX hbl hL hst hR hf Wd hl h (by omega) (by omega) (by omega) (by omega) kk)
    · rw [h9]; exact lv_tableIn (off := 804) (tgt := 848) C0.1.1 C0.1.2.1 dL_law_44 (by decide) (by decide) rfl (by decide) (cs_10 C0 hX hbl hL hst hR hf Wd hl h (by omega) (by omega) (by omega) (by omega) kk)
    · rw [h9]; exact lv_tableIn (off := 860) (tgt := 904) C0.1.1 C0.1.2.1 dL_law_44 (by decide) (by decide) rfl (by decide) (cs_11 C0 hX hbl hL hst hR hf Wd hl h (by omega) (by omega) (by omega) (by omega) kk)
    · rw [h9]; exact lv_tableIn (off := 928) (tgt := 972) C0.1.1 C0.1.2.1 dL_law_44 (by decide) (by decide) rfl (by decide) (cs_12 C0 hX hbl hL hst hR hf Wd hl h (by omega) (by omega) (by omega) (by omega) kk)
    · rw [h9]; exact lv_tableIn (off := 1019) (tgt := 1063) C0.1.1 C0.1.2.1 dL_law_44 (by decide) (by decide) rfl (by decide) (cs_13 C0 hX hbl hL hst hR hf Wd hl h (by omega) (by omega) (by omega) (by omega) kk)
    · rw [h9]; exact lv_tableIn (off := 1032) (tgt := 1076) C0.1.1 C0.1.2.1 dL_law_44 (by decide) (by decide) rfl (by decide) (cs_14 C0 hX hbl hL hst hR hf Wd hl h (by omega) (by omega) (by omega) (by omega) kk)
    · rw [h9]; exact lv_tableIn (off := 1088) (tgt := 1132) C0.1.1 C0.1.2.1 dL_law_44 (by decide) (by decide) rfl (by decide) (cs_15 C0 hX hbl hL hst hR hf Wd hl h (by omega) (by omega) (by omega) (by omega) kk)
    · rw [h9]; exact lv_tableIn (off := 1151) (tgt := 1195) C0.1.1 C0.1.2.1 dL_law_44 (by decide) (by decide) rfl (by decide) (cs_16 C0 hX hbl hL hst hR hf Wd hl h (by omega) (by omega) (by omega) (by omega) kk)
    · rw [h9]; exact lv_tableIn (off := 1214) (tgt := 1258) C0.1.1 C0.1.2.1 dL_law_44 (by decide) (by decide) rfl (by decide) (cs_17 C0 hX hbl hL hst hR hf Wd hl h (by omega) (by omega) (by omega) (by omega) kk)
    · rw [h9]; exact lv_tableIn (off := 1270) (tgt := 1314) C0.1.1 C0.1.2.1 dL_law_44 (by decide) (by decide) rfl (by decide) (cs_18 C0 hX hbl hL hst hR hf Wd hl h (by omega) (by omega) (by omega) (by omega) kk)
    · rw [h9]; exact lv_tableIn (off := 1326) (tgt := 1370) C0.1.1 C0.1.2.1 dL_law_44 (by decide) (by decide) rfl (by decide) (cs_19 C0 hX hbl hL hst hR hf Wd hl h (by omega) (by omega) (by omega) (by omega) kk)
    · rw [h9]; exact lv_tableIn (off := 1382) (tgt := 1426) C0.1.1 C0.1.2.1 dL_law_44 (by decide) (by decide) rfl (by decide) (cs_20 C0 hX hbl hL hst hR hf Wd hl h (by omega) (by omega) (by omega) (by omega) kk)
    · rw [h9]; exact lv_tableIn (off := 1462) (tgt := 1506) C0.1.1 C0.1.2.1 dL_law_44 (by decide) (by decide) rfl (by decide) (cs_21 C0 hX hbl hL hst hR hf Wd hl h (by omega) (by omega) (by omega) (by omega) kk)
    · rw [h9]; exact lv_tableIn (off := 1518) (tgt := 1562) C0.1.1 C0.1.2.1 dL_law_44 (by decide) (by decide) rfl (by decide) (cs_22 C0 hX hbl hL hst hR hf Wd hl h (by omega) (by omega) (by omega) (by omega) kk)
    · rw [h9]; exact lv_tableIn (off := 1531) (tgt := 1575) C0.1.1 C0.1.2.1 dL_law_44 (by decide) (by decide) rfl (by decide) (cs_23 C0 hX hbl hL hst hR hf Wd hl h (by omega) (by omega) (by omega) (by omega) kk)
    · rw [h9]; exact lv_tableIn (off := 1587) (tgt := 1631) C0.1.1 C0.1.2.1 dL_law_44 (by decide) (by decide) rfl (by decide) (cs_24 C0 hX hbl hL hst hR hf Wd hl h (by omega) (by omega) (by omega) (by omega) kk)
    · rw [h9]; exact lv_tableIn (off := 1643) (tgt := 1687) C0.1.1 C0.1.2.1 dL_law_44 (by decide) (by decide) rfl (by decide) (cs_25 C0 hX hbl hL hst hR hf Wd hl h (by omega) (by omega) (by omega) (by omega) kk)
    · rw [h9]; exact lv_tableIn (off := 1699) (tgt := 1743) C0.1.1 C0.1.2.1 dL_law_44 (by decide) (by decide) rfl (by decide) (cs_26 C0 hX hbl hL hst hR hf Wd hl h (by omega) (by omega) (by omega) (by omega) kk)
    · rw [h9]; exact lv_tableIn (off := 1755) (tgt := 1799) C0.1.1 C0.1.2.1 dL_law_44 (by decide) (by decide) rfl (by decide) (cs_27 C0 hX hbl hL hst hR hf Wd hl h (by omega) (by omega) (by omega) (by omega) kk)
    · rw [h9]; exact lv_tableIn (off := 1811) (tgt := 1855) C0.1.1 C0.1.2.1 dL_law_44 (by decide) (by decide) rfl (by decide) (cs_28 C0 hX hbl hL hst hR hf Wd hl h (by omega) (by omega) (by omega) (by omega) kk)
    · rw [h9]; exact lv_tableIn (off := 1867) (tgt := 1911) C0.1.1 C0.1.2.1 dL_law_44 (by decide) (by decide) rfl (by decide) (cs_29 C0 hX hbl hL hst hR hf Wd hl h (by omega) (by omega) (by omega) (by omega) kk)
    · rw [h9]; exact lv_tableIn (off := 1942) (tgt := 1986) C0.1.1 C0.1.2.1 dL_law_44 (by decide) (by decide) rfl (by decide) (cs_30 C0 hX hbl hL hst hR hf Wd hl h (by omega) (by omega) (by omega) (by omega) kk)
    · rw [h9]; exact lv_tableIn (off := 1998) (tgt := 2042) C0.1.1 C0.1.2.1 dL_law_44 (by decide) (by decide) rfl (by decide) (cs_31 C0 hX hbl hL hst hR hf Wd hl h (by omega) (by omega) (by omega) (by omega) kk)
    · rw [h9]; exact lv_tableIn (off := 2054) (tgt := 2098) C0.1.1 C0.1.2.1 dL_law_44 (by decide) (by decide) rfl (by decide) (cs_32 C0 hX hbl hL hst hR hf Wd hl h (by omega) (by omega) (by omega) (by omega) kk)
    · rw [h9]; exact lv_tableIn (off := 2110) (tgt := 2154) C0.1.1 C0.1.2.1 dL_law_44 (by decide) (by decide) rfl (by decide) (cs_33 C0 hX hbl hL hst hR hf Wd hl h (by omega) (by omega) (by omega) (by omega) kk)
    · rw [h9]; exact lv_tableIn (off := 2123) (tgt := 2167) C0.1.1 C0.1.2.1 dL_law_44 (by decide) (by decide) rfl (by decide) (cs_34 C0 hX hbl hL hst hR hf Wd hl h (by omega) (by omega) (by omega) (by omega) kk)
    · rw [h9]; exact lv_tableIn (off := 2191) (tgt := 2235) C0.1.1 C0.1.2.1 dL_law_44 (by decide) (by decide) rfl (by decide) (cs_35 C0 hX hbl hL hst hR hf Wd hl h (by omega) (by omega) (by omega) (by omega) kk)
    · rw [h9]; exact lv_tableIn (off := 2204) (tgt := 2248) C0.1.1 C0.1.2.1 dL_law_44 (by decide) (by decide) rfl (by decide) (cs_36 C0 hX hbl hL hst hR hf Wd hl h (by omega) (by omega) (by omega) (by omega) kk)
    · rw [h9]; exact lv_tableIn (off := 2217) (tgt := 2261) C0.1.1 C0.1.2.1 dL_law_44 (by decide) (by decide) rfl (by decide) (cs_37 C0 hX hbl hL hst hR hf Wd hl h (by omega) (by omega) (by omega) (by omega) kk)
    · rw [h9]; exact lv_tableIn (off := 2230) (tgt := 2274) C0.1.1 C0.1.2.1 dL_law_44 (by decide) (by decide) rfl (by decide) (cs_38 C0 hX hbl hL hst hR hf Wd hl h (by omega) (by omega) (by omega) (by omega) kk)
    · rw [h9]; exact lv_tableIn (off := 2308) (tgt := 2352) C0.1.1 C0.1.2.1 dL_law_44 (by decide) (by decide) rfl (by decide) (cs_39 C0 hX hbl hL hst hR hf Wd hl h (by omega) (by omega) (by omega) (by omega) kk)
    · rw [h9]; exact lv_tableIn (off := 2373) (tgt := 2417) C0.1.1 C0.1.2.1 dL_law_44 (by decide) (by decide) rfl (by decide) (cs_40 C0 hX hbl hL hst hR hf Wd hl h (by omega) (by omega) (by omega) (by omega) kk)
    · rw [h9]; exact lv_tableIn (off := 2429) (tgt := 2473) C0.1.1 C0.1.2.1 dL_law_44 (by decide) (by decide) rfl (by decide) (cs_41 C0 hX hbl hL hst hR hf Wd hl h (by omega) (by omega) (by omega) (by omega) kk)
    · rw [h9]; exact lv_tableIn (off := 2485) (tgt := 2529) C0.1.1 C0.1.2.1 dL_law_44 (by decide) (by decide) rfl (by decide) (cs_42 C0 hX hbl hL hst hR hf Wd hl h (by omega) (by omega) (by omega) (by omega) kk)
    · rw [h9]; exact lv_tableIn (off := 2541) (tgt := 2585) C0.1.1 C0.1.2.1 dL_law_44 (by decide) (by decide) rfl (by decide) (cs_43 C0 hX hbl hL hst hR hf Wd hl h (by omega) (by omega) (by omega) (by omega) kk)
    · rw [h9]; exact lv_tableIn (off := 2554) (tgt := 2598) C0.1.1 C0.1.2.1 dL_law_44 (by decide) (by decide) rfl (by decide) (cs_44 C0 hX hbl hL hst hR hf Wd hl h (by omega) (by omega) (by omega) (by omega) kk)
    · rw [h9]; exact lv_tableIn (off := 2612) (tgt := 2656) C0.1.1 C0.1.2.1 dL_law_44 (by decide) (by decide) rfl (by decide) (cs_45 C0 hX hbl hL hst hR hf Wd hl h (by omega) (by omega) (by omega) (by omega) kk)
    · rw [h9]; exact lv_tableIn (off := 2656) (tgt := 2700) C0.1.1 C0.1.2.1 dL_law_44 (by decide) (by decide) rfl (by decide) (cs_46 C0 hX hbl hL hst hR hf Wd hl h (by omega) (by omega) (by omega) (by omega) kk)
    · rw [h9]; exact lv_tableIn (off := 2700) (tgt := 2744) C0.1.1 C0.1.2.1 dL_law_44 (by decide) (by decide) rfl (by decide) (cs_47 C0 hX hbl hL hst hR hf Wd hl h (by omega) (by omega) (by omega) (by omega) kk)
    · rw [h9]; exact lv_tableIn (off := 2744) (tgt := 2788) C0.1.1 C0.1.2.1 dL_law_44 (by decide) (by decide) rfl (by decide) (cs_48 C0 hX hbl hL hst hR hf Wd hl h (by omega) (by omega) (by omega) (by omega) kk)
    · rw [h9]; exact lv_tableIn (off := 2788) (tgt := 2832) C0.1.1 C0.1.2.1 dL_law_44 (by decide) (by decide) rfl (by decide) (cs_49 C0 hX hbl hL hst hR hf Wd hl h (by omega) (by omega) (by omega) (by omega) kk)
    · rw [h9]; exact lv_tableIn (off := 2801) (tgt := 2845) C0.1.1 C0.1.2.1 dL_law_44 (by decide) (by decide) rfl (by decide) (cs_50 C0 hX hbl hL hst hR hf Wd hl h (by omega) (by omega) (by omega) (by omega) kk)
    · rw [h9]; exact lv_tableIn (off := 2814) (tgt := 2858) C0.1.1 C0.1.2.1 dL_law_44 (by decide) (by decide) rfl (by decide) (cs_51 C0 hX hbl hL hst hR hf Wd hl h (by omega) (by omega) (by omega) (by omega) kk)
