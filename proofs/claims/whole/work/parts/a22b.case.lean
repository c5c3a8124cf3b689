/-! the law's cases -/
set_option maxHeartbeats 4000000 in
set_option maxRecDepth 100000 in
theorem cs_13 {g : zG} {ad : Int → Nat} {p : Program} {l : Launch} {e : Env} {R : Room} {s : State} {m : MethodId} {below : List Frame} {meth : Method} {c : Code} {Q : State → Prop} {b L : Nat} {xs : Nat → Int32} {H : Heap} {locs : List Loc} {cells slots : Nat} {ls : Array Slot} {M F : zMem} {t d i : Int} (C0 : zC g (fun q => s.heap.size ≤ q) p s m #[.ref b] c cL_law 9 "DrumWarrenLaw") (hX : va_X b L xs s s.heap) (hbl : b < s.heap.size) (hL : L ≤ 2048) (hst : l.stackTraces = false) (hR : 100 ≤ R.frames ∧ 10000 ≤ R.locals) (hf : cells + 3 ≤ R.cells ∧ slots + 18 ≤ R.slots) (Wd : zW g (fun q => s.heap.size ≤ q) s.heap 410 ad M F H locs) (hl : lv_has ls 9 [(5, .int (zI i)), (0, .ref b), (1, .ref (ad 0)), (2, .ref (ad 398)), (3, .ref (ad 408)), (4, .ref (ad 409))]) (h : zCR t d M F) (ht : t ≤ 50000000) (hd : d ≤ 9000) (i0 : 0 ≤ i) (i4 : i + 4 ≤ (L : Int)) (kk : ∀ (M' F' : zMem) (H1 : Heap) (locs1 : List Loc) (ls1 : Array Slot) (c1 s1 : Nat), zCR (t + 7000) (d + 9) M' F' → zW g (fun q => s.heap.size ≤ q) s.heap 410 ad M' F' H1 locs1 → lv_has ls1 9 [(5, .int (zI i)), (0, .ref b), (1, .ref (ad 0)), (2, .ref (ad 398)), (3, .ref (ad 408)), (4, .ref (ad 409))] → c1 ≤ cells + 3 → s1 ≤ slots + 18 → W p l e R s m #[.ref b] below meth c H1 locs1 c1 s1 Q (F0 m 2902 ls1 [])) : W p l e R s m #[.ref b] below meth c H locs cells slots Q (F0 m 1063 ls []) := by
  refine z_aload_n C0 hl 2 rfl dL_law_1063 ?_
  obtain ⟨post, hh1, hh2⟩ := lp_hareCount l g ad h ht hd Wd.2
  refine z_invVi (As := []) (rest := []) C0 Wd hh1 kv_X11_hareCount zN0 (zE_8 zK0) rfl zk_417 rfl hl.1 rfl (Nat.le_of_ble_eq_true rfl) ⟨by omega, by omega⟩ ⟨by omega, by omega⟩ dL_law_1064 (fun k M1 F1 H locs hk hp Wd => ?_)
  refine z_aload_n C0 hl 3 rfl dL_law_1067 ?_
  obtain ⟨pm, hm1, hm2⟩ := hh2 k M1 F1 hp Wd.2
  refine z_invVi (As := []) (rest := [.int (zI k)]) C0 Wd hm1 kv_X12_hareCount zN398 (zE_9 zK398) rfl zk_1817 rfl hl.1 rfl (Nat.le_of_ble_eq_true rfl) ⟨by omega, by omega⟩ ⟨by omega, by omega⟩ dL_law_1068 (fun bb M2 F2 H locs hbz hp2 Wd => ?_)
  obtain ⟨e9, hcr⟩ := hm2 bb M2 F2 hp2
  refine z_icmp_eq C0 (tgt := 2902) hk hbz dL_law_1071 (by decide) (fun _ => ?_) (fun c9 => absurd e9.symm c9)
  exact kk M2 F2 H locs ls _ _ (zCR_up hcr (by omega) (by omega)) Wd (lv_sub hl [0, 1, 2, 3, 4, 5] rfl) (by omega) (by omega)
set_option maxHeartbeats 4000000 in
set_option maxRecDepth 100000 in
theorem cs_14 {g : zG} {ad : Int → Nat} {p : Program} {l : Launch} {e : Env} {R : Room} {s : State} {m : MethodId} {below : List Frame} {meth : Method} {c : Code} {Q : State → Prop} {b L : Nat} {xs : Nat → Int32} {H : Heap} {locs : List Loc} {cells slots : Nat} {ls : Array Slot} {M F : zMem} {t d i : Int} (C0 : zC g (fun q => s.heap.size ≤ q) p s m #[.ref b] c cL_law 9 "DrumWarrenLaw") (hX : va_X b L xs s s.heap) (hbl : b < s.heap.size) (hL : L ≤ 2048) (hst : l.stackTraces = false) (hR : 100 ≤ R.frames ∧ 10000 ≤ R.locals) (hf : cells + 3 ≤ R.cells ∧ slots + 18 ≤ R.slots) (Wd : zW g (fun q => s.heap.size ≤ q) s.heap 410 ad M F H locs) (hl : lv_has ls 9 [(5, .int (zI i)), (0, .ref b), (1, .ref (ad 0)), (2, .ref (ad 398)), (3, .ref (ad 408)), (4, .ref (ad 409))]) (h : zCR t d M F) (ht : t ≤ 50000000) (hd : d ≤ 9000) (i0 : 0 ≤ i) (i4 : i + 4 ≤ (L : Int)) (kk : ∀ (M' F' : zMem) (H1 : Heap) (locs1 : List Loc) (ls1 : Array Slot) (c1 s1 : Nat), zCR (t + 7000) (d + 9) M' F' → zW g (fun q => s.heap.size ≤ q) s.heap 410 ad M' F' H1 locs1 → lv_has ls1 9 [(5, .int (zI i)), (0, .ref b), (1, .ref (ad 0)), (2, .ref (ad 398)), (3, .ref (ad 408)), (4, .ref (ad 409))] → c1 ≤ cells + 3 → s1 ≤ slots + 18 → W p l e R s m #[.ref b] below meth c H1 locs1 c1 s1 Q (F0 m 2902 ls1 [])) : W p l e R s m #[.ref b] below meth c H locs cells slots Q (F0 m 1076 ls []) := by
  refine z_aload_n C0 hl 2 rfl dL_law_1076 ?_
  refine z_aload_n C0 hl 1 rfl dL_law_1077 ?_
  refine z_iload C0 hl 0 rfl dL_law_1078 ?_
  refine z_iconst C0 dL_law_1080 ?_
  refine z_iadd C0 dL_law_1081 ?_
  refine z_sld C0 Wd hX hbl (Nat.not_le.mpr hbl) (by omega) (by omega) hL dL_law_1082 ?_
  refine z_aload_n C0 hl 4 rfl dL_law_1083 ?_
  obtain ⟨post, hh1, hh2⟩ := lw_chamberOf l g ad h ht hd Wd.2 (sx xs (i + 1)) (sx_R _ _)
  refine z_invSH (As := [.ref (ad 0), .int (zI (sx xs (i + 1))), .ref (ad 408)]) (rest := []) C0 Wd hst hh1 hs_chamberOf zk_849 rfl hl.1 rfl (Nat.le_of_ble_eq_true rfl) ⟨by omega, by omega⟩ ⟨by omega, by omega⟩ dL_law_1084 (fun k M1 F1 H locs hk hp Wd => ?_)
  refine z_istore C0 hl [(6, .int (zI k)), (5, .int (zI i)), (0, .ref b), (1, .ref (ad 0)), (2, .ref (ad 398)), (3, .ref (ad 408)), (4, .ref (ad 409))] (by decide) rfl dL_law_1087 (fun ls hl => ?_)
  refine z_aload_n C0 hl 4 rfl dL_law_1089 ?_
  refine z_aload_n C0 hl 2 rfl dL_law_1090 ?_
  refine z_iload C0 hl 1 rfl dL_law_1091 ?_
  refine z_iconst C0 dL_law_1093 ?_
  refine z_iadd C0 dL_law_1094 ?_
  refine z_sld C0 Wd hX hbl (Nat.not_le.mpr hbl) (by omega) (by omega) hL dL_law_1095 ?_
  obtain ⟨pm, hm1, hm2⟩ := hh2 k M1 F1 hp Wd.2
  refine z_invAi (As := [.int (zI (sx xs (i + 1)))]) (rest := []) C0 Wd hm1 hm2 kv_X12_chamberOf zN398 (zE_9 zK398) rfl zk_1821 rfl hl.1 rfl (Nat.le_of_ble_eq_true rfl) ⟨by omega, by omega⟩ ⟨by omega, by omega⟩ dL_law_1096 (fun bb M2 F2 H locs hbz e8 e9 hcr Wd => ?_)
  refine z_istore C0 hl [(7, .int (zI bb)), (6, .int (zI k)), (5, .int (zI i)), (0, .ref b), (1, .ref (ad 0)), (2, .ref (ad 398)), (3, .ref (ad 408)), (4, .ref (ad 409))] (by decide) rfl dL_law_1099 (fun ls hl => ?_)
  refine z_aload_n C0 hl 5 rfl dL_law_1101 ?_
  refine z_invVi (As := []) (rest := []) C0 Wd (ct_X12_thrown l g ad M2 F2) kv_X12_thrown zN398 (zE_9 zK398) rfl zk_1670 rfl hl.1 rfl (Nat.le_of_ble_eq_true rfl) ⟨by omega, by omega⟩ ⟨by omega, by omega⟩ dL_law_1102 (fun r3 M3 F3 H locs hr3 hp3 Wd => ?_)
  obtain ⟨rfl, rfl, rfl⟩ := hp3
  refine z_iload C0 hl 1 rfl dL_law_1105 ?_
  refine z_icmp_eq C0 (tgt := 1112) hr3 hk dL_law_1107 (by decide) (fun _ => ?_) (fun c9 => absurd e8 c9)
  refine z_iload C0 hl 1 rfl dL_law_1112 ?_
  refine z_if_ne C0 (tgt := 1129) hk dL_law_1114 (by decide) (fun k0 => ?_) (fun k0 => ?_)
  · skip
    refine z_goto C0 (tgt := 2902) dL_law_1129 (by decide) ?_
    exact kk M2 F2 H locs ls _ _ (zCR_up hcr (by omega) (by omega)) Wd (lv_sub hl [2, 3, 4, 5, 6, 7] rfl) (by omega) (by omega)
  · skip
    have e9 := e9 k0
    refine z_aload_n C0 hl 6 rfl dL_law_1117 ?_
    refine z_iconst C0 dL_law_1118 ?_
    refine z_lald C0 Wd zN408 zK408 zL408 (by decide) (by decide) (by decide) dL_law_1119 ?_
    refine z_iload C0 hl 0 rfl dL_law_1120 ?_
    refine z_i2l C0 hbz dL_law_1122 ?_
    refine z_lcmpE C0 e9 dL_law_1123 ?_
    refine z_if_eq C0 (tgt := 1129) (zR_mk (by decide) (by decide)) dL_law_1124 (by decide) (fun _ => ?_) (fun h9 => absurd rfl h9)
    refine z_goto C0 (tgt := 2902) dL_law_1129 (by decide) ?_
    exact kk M2 F2 H locs ls _ _ (zCR_up hcr (by omega) (by omega)) Wd (lv_sub hl [2, 3, 4, 5, 6, 7] rfl) (by omega) (by omega)
set_option maxHeartbeats 4000000 in
set_option maxRecDepth 100000 in
theorem cs_15 {g : zG} {ad : Int → Nat} {p : Program} {l : Launch} {e : Env} {R : Room} {s : State} {m : MethodId} {below : List Frame} {meth : Method} {c : Code} {Q : State → Prop} {b L : Nat} {xs : Nat → Int32} {H : Heap} {locs : List Loc} {cells slots : Nat} {ls : Array Slot} {M F : zMem} {t d i : Int} (C0 : zC g (fun q => s.heap.size ≤ q) p s m #[.ref b] c cL_law 9 "DrumWarrenLaw") (hX : va_X b L xs s s.heap) (hbl : b < s.heap.size) (hL : L ≤ 2048) (hst : l.stackTraces = false) (hR : 100 ≤ R.frames ∧ 10000 ≤ R.locals) (hf : cells + 3 ≤ R.cells ∧ slots + 18 ≤ R.slots) (Wd : zW g (fun q => s.heap.size ≤ q) s.heap 410 ad M F H locs) (hl : lv_has ls 9 [(5, .int (zI i)), (0, .ref b), (1, .ref (ad 0)), (2, .ref (ad 398)), (3, .ref (ad 408)), (4, .ref (ad 409))]) (h : zCR t d M F) (ht : t ≤ 50000000) (hd : d ≤ 9000) (i0 : 0 ≤ i) (i4 : i + 4 ≤ (L : Int)) (kk : ∀ (M' F' : zMem) (H1 : Heap) (locs1 : List Loc) (ls1 : Array Slot) (c1 s1 : Nat), zCR (t + 7000) (d + 9) M' F' → zW g (fun q => s.heap.size ≤ q) s.heap 410 ad M' F' H1 locs1 → lv_has ls1 9 [(5, .int (zI i)), (0, .ref b), (1, .ref (ad 0)), (2, .ref (ad 398)), (3, .ref (ad 408)), (4, .ref (ad 409))] → c1 ≤ cells + 3 → s1 ≤ slots + 18 → W p l e R s m #[.ref b] below meth c H1 locs1 c1 s1 Q (F0 m 2902 ls1 [])) : W p l e R s m #[.ref b] below meth c H locs cells slots Q (F0 m 1132 ls []) := by
  refine z_aload_n C0 hl 2 rfl dL_law_1132 ?_
  refine z_aload_n C0 hl 1 rfl dL_law_1133 ?_
  refine z_iload C0 hl 0 rfl dL_law_1134 ?_
  refine z_iconst C0 dL_law_1136 ?_
  refine z_iadd C0 dL_law_1137 ?_
  refine z_sld C0 Wd hX hbl (Nat.not_le.mpr hbl) (by omega) (by omega) hL dL_law_1138 ?_
  refine z_aload_n C0 hl 4 rfl dL_law_1139 ?_
  obtain ⟨post, hh1, hh2⟩ := lw_isListening l g ad h ht hd Wd.2 (sx xs (i + 1)) (sx_R _ _)
  refine z_invSH (As := [.ref (ad 0), .int (zI (sx xs (i + 1))), .ref (ad 408)]) (rest := []) C0 Wd hst hh1 hs_isListening zk_862 rfl hl.1 rfl (Nat.le_of_ble_eq_true rfl) ⟨by omega, by omega⟩ ⟨by omega, by omega⟩ dL_law_1140 (fun k M1 F1 H locs hk hp Wd => ?_)
  refine z_istore C0 hl [(6, .int (zI k)), (5, .int (zI i)), (0, .ref b), (1, .ref (ad 0)), (2, .ref (ad 398)), (3, .ref (ad 408)), (4, .ref (ad 409))] (by decide) rfl dL_law_1143 (fun ls hl => ?_)
  refine z_aload_n C0 hl 4 rfl dL_law_1145 ?_
  refine z_aload_n C0 hl 2 rfl dL_law_1146 ?_
  refine z_iload C0 hl 1 rfl dL_law_1147 ?_
  refine z_iconst C0 dL_law_1149 ?_
  refine z_iadd C0 dL_law_1150 ?_
  refine z_sld C0 Wd hX hbl (Nat.not_le.mpr hbl) (by omega) (by omega) hL dL_law_1151 ?_
  obtain ⟨pm, hm1, hm2⟩ := hh2 k M1 F1 hp Wd.2
  refine z_invAb (As := [.int (zI (sx xs (i + 1)))]) (rest := []) C0 Wd hm1 hm2 kv_X12_isListening zN398 (zE_9 zK398) rfl zk_1825 rfl hl.1 rfl (Nat.le_of_ble_eq_true rfl) ⟨by omega, by omega⟩ ⟨by omega, by omega⟩ dL_law_1152 (fun bb M2 F2 H locs h01 e8 e9 hcr Wd => ?_)
  refine z_istore C0 hl [(7, .int (zI bb)), (6, .int (zI k)), (5, .int (zI i)), (0, .ref b), (1, .ref (ad 0)), (2, .ref (ad 398)), (3, .ref (ad 408)), (4, .ref (ad 409))] (by decide) rfl dL_law_1155 (fun ls hl => ?_)
  refine z_aload_n C0 hl 5 rfl dL_law_1157 ?_
  refine z_invVi (As := []) (rest := []) C0 Wd (ct_X12_thrown l g ad M2 F2) kv_X12_thrown zN398 (zE_9 zK398) rfl zk_1670 rfl hl.1 rfl (Nat.le_of_ble_eq_true rfl) ⟨by omega, by omega⟩ ⟨by omega, by omega⟩ dL_law_1158 (fun r3 M3 F3 H locs hr3 hp3 Wd => ?_)
  obtain ⟨rfl, rfl, rfl⟩ := hp3
  refine z_iload C0 hl 1 rfl dL_law_1161 ?_
  refine z_icmp_eq C0 (tgt := 1168) hr3 hk dL_law_1163 (by decide) (fun _ => ?_) (fun c9 => absurd e8 c9)
  refine z_iload C0 hl 1 rfl dL_law_1168 ?_
  refine z_if_ne C0 (tgt := 1192) hk dL_law_1170 (by decide) (fun k0 => ?_) (fun k0 => ?_)
  · skip
    refine z_goto C0 (tgt := 2902) dL_law_1192 (by decide) ?_
    exact kk M2 F2 H locs ls _ _ (zCR_up hcr (by omega) (by omega)) Wd (lv_sub hl [2, 3, 4, 5, 6, 7] rfl) (by omega) (by omega)
  · skip
    have e9 := e9 k0
    refine z_aload_n C0 hl 6 rfl dL_law_1173 ?_
    refine z_iconst C0 dL_law_1174 ?_
    refine z_lald C0 Wd zN408 zK408 zL408 (by decide) (by decide) (by decide) dL_law_1175 ?_
    refine z_iload C0 hl 0 rfl dL_law_1176 ?_
    rcases h01 with rfl | rfl
    · skip
      refine z_if_eq C0 (tgt := 1185) (zR_mk (by decide) (by decide)) dL_law_1178 (by decide) (fun _ => ?_) (fun h9 => absurd rfl h9)
      refine z_lconst C0 0 dL_law_1185 rfl ?_
      refine z_lcmpE C0 e9 dL_law_1186 ?_
      refine z_if_eq C0 (tgt := 1192) (zR_mk (by decide) (by decide)) dL_law_1187 (by decide) (fun _ => ?_) (fun h9 => absurd rfl h9)
      refine z_goto C0 (tgt := 2902) dL_law_1192 (by decide) ?_
      exact kk M2 F2 H locs ls _ _ (zCR_up hcr (by omega) (by omega)) Wd (lv_sub hl [2, 3, 4, 5, 6, 7] rfl) (by omega) (by omega)
    · skip
      refine z_if_eq C0 (tgt := 1185) (zR_mk (by decide) (by decide)) dL_law_1178 (by decide) (fun h9 => absurd h9 (by decide)) (fun _ => ?_)
      refine z_lconst C0 1 dL_law_1181 rfl ?_
      refine z_goto C0 (tgt := 1186) dL_law_1182 (by decide) ?_
      refine z_lcmpE C0 e9 dL_law_1186 ?_
      refine z_if_eq C0 (tgt := 1192) (zR_mk (by decide) (by decide)) dL_law_1187 (by decide) (fun _ => ?_) (fun h9 => absurd rfl h9)
      refine z_goto C0 (tgt := 2902) dL_law_1192 (by decide) ?_
      exact kk M2 F2 H locs ls _ _ (zCR_up hcr (by omega) (by omega)) Wd (lv_sub hl [2, 3, 4, 5, 6, 7] rfl) (by omega) (by omega)
set_option maxHeartbeats 4000000 in
set_option maxRecDepth 100000 in
theorem cs_16 {g : zG} {ad : Int → Nat} {p : Program} {l : Launch} {e : Env} {R : Room} {s : State} {m : MethodId} {below : List Frame} {meth : Method} {c : Code} {Q : State → Prop} {b L : Nat} {xs : Nat → Int32} {H : Heap} {locs : List Loc} {cells slots : Nat} {ls : Array Slot} {M F : zMem} {t d i : Int} (C0 : zC g (fun q => s.heap.size ≤ q) p s m #[.ref b] c cL_law 9 "DrumWarrenLaw") (hX : va_X b L xs s s.heap) (hbl : b < s.heap.size) (hL : L ≤ 2048) (hst : l.stackTraces = false) (hR : 100 ≤ R.frames ∧ 10000 ≤ R.locals) (hf : cells + 3 ≤ R.cells ∧ slots + 18 ≤ R.slots) (Wd : zW g (fun q => s.heap.size ≤ q) s.heap 410 ad M F H locs) (hl : lv_has ls 9 [(5, .int (zI i)), (0, .ref b), (1, .ref (ad 0)), (2, .ref (ad 398)), (3, .ref (ad 408)), (4, .ref (ad 409))]) (h : zCR t d M F) (ht : t ≤ 50000000) (hd : d ≤ 9000) (i0 : 0 ≤ i) (i4 : i + 4 ≤ (L : Int)) (kk : ∀ (M' F' : zMem) (H1 : Heap) (locs1 : List Loc) (ls1 : Array Slot) (c1 s1 : Nat), zCR (t + 7000) (d + 9) M' F' → zW g (fun q => s.heap.size ≤ q) s.heap 410 ad M' F' H1 locs1 → lv_has ls1 9 [(5, .int (zI i)), (0, .ref b), (1, .ref (ad 0)), (2, .ref (ad 398)), (3, .ref (ad 408)), (4, .ref (ad 409))] → c1 ≤ cells + 3 → s1 ≤ slots + 18 → W p l e R s m #[.ref b] below meth c H1 locs1 c1 s1 Q (F0 m 2902 ls1 [])) : W p l e R s m #[.ref b] below meth c H locs cells slots Q (F0 m 1195 ls []) := by
  refine z_aload_n C0 hl 2 rfl dL_law_1195 ?_
  refine z_aload_n C0 hl 1 rfl dL_law_1196 ?_
  refine z_iload C0 hl 0 rfl dL_law_1197 ?_
  refine z_iconst C0 dL_law_1199 ?_
  refine z_iadd C0 dL_law_1200 ?_
  refine z_sld C0 Wd hX hbl (Nat.not_le.mpr hbl) (by omega) (by omega) hL dL_law_1201 ?_
  refine z_aload_n C0 hl 4 rfl dL_law_1202 ?_
  obtain ⟨post, hh1, hh2⟩ := lw_isDrumming l g ad h ht hd Wd.2 (sx xs (i + 1)) (sx_R _ _)
  refine z_invSH (As := [.ref (ad 0), .int (zI (sx xs (i + 1))), .ref (ad 408)]) (rest := []) C0 Wd hst hh1 hs_isDrumming zk_869 rfl hl.1 rfl (Nat.le_of_ble_eq_true rfl) ⟨by omega, by omega⟩ ⟨by omega, by omega⟩ dL_law_1203 (fun k M1 F1 H locs hk hp Wd => ?_)
  refine z_istore C0 hl [(6, .int (zI k)), (5, .int (zI i)), (0, .ref b), (1, .ref (ad 0)), (2, .ref (ad 398)), (3, .ref (ad 408)), (4, .ref (ad 409))] (by decide) rfl dL_law_1206 (fun ls hl => ?_)
  refine z_aload_n C0 hl 4 rfl dL_law_1208 ?_
  refine z_aload_n C0 hl 2 rfl dL_law_1209 ?_
  refine z_iload C0 hl 1 rfl dL_law_1210 ?_
  refine z_iconst C0 dL_law_1212 ?_
  refine z_iadd C0 dL_law_1213 ?_
  refine z_sld C0 Wd hX hbl (Nat.not_le.mpr hbl) (by omega) (by omega) hL dL_law_1214 ?_
  obtain ⟨pm, hm1, hm2⟩ := hh2 k M1 F1 hp Wd.2
  refine z_invAb (As := [.int (zI (sx xs (i + 1)))]) (rest := []) C0 Wd hm1 hm2 kv_X12_isDrumming zN398 (zE_9 zK398) rfl zk_1829 rfl hl.1 rfl (Nat.le_of_ble_eq_true rfl) ⟨by omega, by omega⟩ ⟨by omega, by omega⟩ dL_law_1215 (fun bb M2 F2 H locs h01 e8 e9 hcr Wd => ?_)
  refine z_istore C0 hl [(7, .int (zI bb)), (6, .int (zI k)), (5, .int (zI i)), (0, .ref b), (1, .ref (ad 0)), (2, .ref (ad 398)), (3, .ref (ad 408)), (4, .ref (ad 409))] (by decide) rfl dL_law_1218 (fun ls hl => ?_)
  refine z_aload_n C0 hl 5 rfl dL_law_1220 ?_
  refine z_invVi (As := []) (rest := []) C0 Wd (ct_X12_thrown l g ad M2 F2) kv_X12_thrown zN398 (zE_9 zK398) rfl zk_1670 rfl hl.1 rfl (Nat.le_of_ble_eq_true rfl) ⟨by omega, by omega⟩ ⟨by omega, by omega⟩ dL_law_1221 (fun r3 M3 F3 H locs hr3 hp3 Wd => ?_)
  obtain ⟨rfl, rfl, rfl⟩ := hp3
  refine z_iload C0 hl 1 rfl dL_law_1224 ?_
  refine z_icmp_eq C0 (tgt := 1231) hr3 hk dL_law_1226 (by decide) (fun _ => ?_) (fun c9 => absurd e8 c9)
  refine z_iload C0 hl 1 rfl dL_law_1231 ?_
  refine z_if_ne C0 (tgt := 1255) hk dL_law_1233 (by decide) (fun k0 => ?_) (fun k0 => ?_)
  · skip
    refine z_goto C0 (tgt := 2902) dL_law_1255 (by decide) ?_
    exact kk M2 F2 H locs ls _ _ (zCR_up hcr (by omega) (by omega)) Wd (lv_sub hl [2, 3, 4, 5, 6, 7] rfl) (by omega) (by omega)
  · skip
    have e9 := e9 k0
    refine z_aload_n C0 hl 6 rfl dL_law_1236 ?_
    refine z_iconst C0 dL_law_1237 ?_
    refine z_lald C0 Wd zN408 zK408 zL408 (by decide) (by decide) (by decide) dL_law_1238 ?_
    refine z_iload C0 hl 0 rfl dL_law_1239 ?_
    rcases h01 with rfl | rfl
    · skip
      refine z_if_eq C0 (tgt := 1248) (zR_mk (by decide) (by decide)) dL_law_1241 (by decide) (fun _ => ?_) (fun h9 => absurd rfl h9)
      refine z_lconst C0 0 dL_law_1248 rfl ?_
      refine z_lcmpE C0 e9 dL_law_1249 ?_
      refine z_if_eq C0 (tgt := 1255) (zR_mk (by decide) (by decide)) dL_law_1250 (by decide) (fun _ => ?_) (fun h9 => absurd rfl h9)
      refine z_goto C0 (tgt := 2902) dL_law_1255 (by decide) ?_
      exact kk M2 F2 H locs ls _ _ (zCR_up hcr (by omega) (by omega)) Wd (lv_sub hl [2, 3, 4, 5, 6, 7] rfl) (by omega) (by omega)
    · skip
      refine z_if_eq C0 (tgt := 1248) (zR_mk (by decide) (by decide)) dL_law_1241 (by decide) (fun h9 => absurd h9 (by decide)) (fun _ => ?_)
      refine z_lconst C0 1 dL_law_1244 rfl ?_
      refine z_goto C0 (tgt := 1249) dL_law_1245 (by decide) ?_
      refine z_lcmpE C0 e9 dL_law_1249 ?_
      refine z_if_eq C0 (tgt := 1255) (zR_mk (by decide) (by decide)) dL_law_1250 (by decide) (fun _ => ?_) (fun h9 => absurd rfl h9)
      refine z_goto C0 (tgt := 2902) dL_law_1255 (by decide) ?_
      exact kk M2 F2 H locs ls _ _ (zCR_up hcr (by omega) (by omega)) Wd (lv_sub hl [2, 3, 4, 5, 6, 7] rfl) (by omega) (by omega)
set_option maxHeartbeats 4000000 in
set_option maxRecDepth 100000 in
theorem cs_17 {g : zG} {ad : Int → Nat} {p : Program} {l : Launch} {e : Env} {R : Room} {s : State} {m : MethodId} {below : List Frame} {meth : Method} {c : Code} {Q : State → Prop} {b L : Nat} {xs : Nat → Int32} {H : Heap} {locs : List Loc} {cells slots : Nat} {ls : Array Slot} {M F : zMem} {t d i : Int} (C0 : zC g (fun q => s.heap.size ≤ q) p s m #[.ref b] c cL_law 9 "DrumWarrenLaw") (hX : va_X b L xs s s.heap) (hbl : b < s.heap.size) (hL : L ≤ 2048) (hst : l.stackTraces = false) (hR : 100 ≤ R.frames ∧ 10000 ≤ R.locals) (hf : cells + 3 ≤ R.cells ∧ slots + 18 ≤ R.slots) (Wd : zW g (fun q => s.heap.size ≤ q) s.heap 410 ad M F H locs) (hl : lv_has ls 9 [(5, .int (zI i)), (0, .ref b), (1, .ref (ad 0)), (2, .ref (ad 398)), (3, .ref (ad 408)), (4, .ref (ad 409))]) (h : zCR t d M F) (ht : t ≤ 50000000) (hd : d ≤ 9000) (i0 : 0 ≤ i) (i4 : i + 4 ≤ (L : Int)) (kk : ∀ (M' F' : zMem) (H1 : Heap) (locs1 : List Loc) (ls1 : Array Slot) (c1 s1 : Nat), zCR (t + 7000) (d + 9) M' F' → zW g (fun q => s.heap.size ≤ q) s.heap 410 ad M' F' H1 locs1 → lv_has ls1 9 [(5, .int (zI i)), (0, .ref b), (1, .ref (ad 0)), (2, .ref (ad 398)), (3, .ref (ad 408)), (4, .ref (ad 409))] → c1 ≤ cells + 3 → s1 ≤ slots + 18 → W p l e R s m #[.ref b] below meth c H1 locs1 c1 s1 Q (F0 m 2902 ls1 [])) : W p l e R s m #[.ref b] below meth c H locs cells slots Q (F0 m 1258 ls []) := by
  refine z_aload_n C0 hl 2 rfl dL_law_1258 ?_
  refine z_aload_n C0 hl 1 rfl dL_law_1259 ?_
  refine z_iload C0 hl 0 rfl dL_law_1260 ?_
  refine z_iconst C0 dL_law_1262 ?_
  refine z_iadd C0 dL_law_1263 ?_
  refine z_sld C0 Wd hX hbl (Nat.not_le.mpr hbl) (by omega) (by omega) hL dL_law_1264 ?_
  refine z_aload_n C0 hl 4 rfl dL_law_1265 ?_
  obtain ⟨post, hh1, hh2⟩ := lw_received l g ad h ht hd Wd.2 (sx xs (i + 1)) (sx_R _ _)
  refine z_invSH (As := [.ref (ad 0), .int (zI (sx xs (i + 1))), .ref (ad 408)]) (rest := []) C0 Wd hst hh1 hs_received zk_877 rfl hl.1 rfl (Nat.le_of_ble_eq_true rfl) ⟨by omega, by omega⟩ ⟨by omega, by omega⟩ dL_law_1266 (fun k M1 F1 H locs hk hp Wd => ?_)
  refine z_istore C0 hl [(6, .int (zI k)), (5, .int (zI i)), (0, .ref b), (1, .ref (ad 0)), (2, .ref (ad 398)), (3, .ref (ad 408)), (4, .ref (ad 409))] (by decide) rfl dL_law_1269 (fun ls hl => ?_)
  refine z_aload_n C0 hl 4 rfl dL_law_1271 ?_
  refine z_aload_n C0 hl 2 rfl dL_law_1272 ?_
  refine z_iload C0 hl 1 rfl dL_law_1273 ?_
  refine z_iconst C0 dL_law_1275 ?_
  refine z_iadd C0 dL_law_1276 ?_
  refine z_sld C0 Wd hX hbl (Nat.not_le.mpr hbl) (by omega) (by omega) hL dL_law_1277 ?_
  obtain ⟨pm, hm1, hm2⟩ := hh2 k M1 F1 hp Wd.2
  refine z_invAi (As := [.int (zI (sx xs (i + 1)))]) (rest := []) C0 Wd hm1 hm2 kv_X12_received zN398 (zE_9 zK398) rfl zk_1833 rfl hl.1 rfl (Nat.le_of_ble_eq_true rfl) ⟨by omega, by omega⟩ ⟨by omega, by omega⟩ dL_law_1278 (fun bb M2 F2 H locs hbz e8 e9 hcr Wd => ?_)
  refine z_istore C0 hl [(7, .int (zI bb)), (6, .int (zI k)), (5, .int (zI i)), (0, .ref b), (1, .ref (ad 0)), (2, .ref (ad 398)), (3, .ref (ad 408)), (4, .ref (ad 409))] (by decide) rfl dL_law_1281 (fun ls hl => ?_)
  refine z_aload_n C0 hl 5 rfl dL_law_1283 ?_
  refine z_invVi (As := []) (rest := []) C0 Wd (ct_X12_thrown l g ad M2 F2) kv_X12_thrown zN398 (zE_9 zK398) rfl zk_1670 rfl hl.1 rfl (Nat.le_of_ble_eq_true rfl) ⟨by omega, by omega⟩ ⟨by omega, by omega⟩ dL_law_1284 (fun r3 M3 F3 H locs hr3 hp3 Wd => ?_)
  obtain ⟨rfl, rfl, rfl⟩ := hp3
  refine z_iload C0 hl 1 rfl dL_law_1287 ?_
  refine z_icmp_eq C0 (tgt := 1294) hr3 hk dL_law_1289 (by decide) (fun _ => ?_) (fun c9 => absurd e8 c9)
  refine z_iload C0 hl 1 rfl dL_law_1294 ?_
  refine z_if_ne C0 (tgt := 1311) hk dL_law_1296 (by decide) (fun k0 => ?_) (fun k0 => ?_)
  · skip
    refine z_goto C0 (tgt := 2902) dL_law_1311 (by decide) ?_
    exact kk M2 F2 H locs ls _ _ (zCR_up hcr (by omega) (by omega)) Wd (lv_sub hl [2, 3, 4, 5, 6, 7] rfl) (by omega) (by omega)
  · skip
    have e9 := e9 k0
    refine z_aload_n C0 hl 6 rfl dL_law_1299 ?_
    refine z_iconst C0 dL_law_1300 ?_
    refine z_lald C0 Wd zN408 zK408 zL408 (by decide) (by decide) (by decide) dL_law_1301 ?_
    refine z_iload C0 hl 0 rfl dL_law_1302 ?_
    refine z_i2l C0 hbz dL_law_1304 ?_
    refine z_lcmpE C0 e9 dL_law_1305 ?_
    refine z_if_eq C0 (tgt := 1311) (zR_mk (by decide) (by decide)) dL_law_1306 (by decide) (fun _ => ?_) (fun h9 => absurd rfl h9)
    refine z_goto C0 (tgt := 2902) dL_law_1311 (by decide) ?_
    exact kk M2 F2 H locs ls _ _ (zCR_up hcr (by omega) (by omega)) Wd (lv_sub hl [2, 3, 4, 5, 6, 7] rfl) (by omega) (by omega)
set_option maxHeartbeats 4000000 in
set_option maxRecDepth 100000 in
theorem cs_18 {g : zG} {ad : Int → Nat} {p : Program} {l : Launch} {e : Env} {R : Room} {s : State} {m : MethodId} {below : List Frame} {meth : Method} {c : Code} {Q : State → Prop} {b L : Nat} {xs : Nat → Int32} {H : Heap} {locs : List Loc} {cells slots : Nat} {ls : Array Slot} {M F : zMem} {t d i : Int} (C0 : zC g (fun q => s.heap.size ≤ q) p s m #[.ref b] c cL_law 9 "DrumWarrenLaw") (hX : va_X b L xs s s.heap) (hbl : b < s.heap.size) (hL : L ≤ 2048) (hst : l.stackTraces = false) (hR : 100 ≤ R.frames ∧ 10000 ≤ R.locals) (hf : cells + 3 ≤ R.cells ∧ slots + 18 ≤ R.slots) (Wd : zW g (fun q => s.heap.size ≤ q) s.heap 410 ad M F H locs) (hl : lv_has ls 9 [(5, .int (zI i)), (0, .ref b), (1, .ref (ad 0)), (2, .ref (ad 398)), (3, .ref (ad 408)), (4, .ref (ad 409))]) (h : zCR t d M F) (ht : t ≤ 50000000) (hd : d ≤ 9000) (i0 : 0 ≤ i) (i4 : i + 4 ≤ (L : Int)) (kk : ∀ (M' F' : zMem) (H1 : Heap) (locs1 : List Loc) (ls1 : Array Slot) (c1 s1 : Nat), zCR (t + 7000) (d + 9) M' F' → zW g (fun q => s.heap.size ≤ q) s.heap 410 ad M' F' H1 locs1 → lv_has ls1 9 [(5, .int (zI i)), (0, .ref b), (1, .ref (ad 0)), (2, .ref (ad 398)), (3, .ref (ad 408)), (4, .ref (ad 409))] → c1 ≤ cells + 3 → s1 ≤ slots + 18 → W p l e R s m #[.ref b] below meth c H1 locs1 c1 s1 Q (F0 m 2902 ls1 [])) : W p l e R s m #[.ref b] below meth c H locs cells slots Q (F0 m 1314 ls []) := by
  refine z_aload_n C0 hl 2 rfl dL_law_1314 ?_
  refine z_aload_n C0 hl 1 rfl dL_law_1315 ?_
  refine z_iload C0 hl 0 rfl dL_law_1316 ?_
  refine z_iconst C0 dL_law_1318 ?_
  refine z_iadd C0 dL_law_1319 ?_
  refine z_sld C0 Wd hX hbl (Nat.not_le.mpr hbl) (by omega) (by omega) hL dL_law_1320 ?_
  refine z_aload_n C0 hl 4 rfl dL_law_1321 ?_
  obtain ⟨post, hh1, hh2⟩ := lw_latestNumber l g ad h ht hd Wd.2 (sx xs (i + 1)) (sx_R _ _)
  refine z_invSH (As := [.ref (ad 0), .int (zI (sx xs (i + 1))), .ref (ad 408)]) (rest := []) C0 Wd hst hh1 hs_latestNumber zk_888 rfl hl.1 rfl (Nat.le_of_ble_eq_true rfl) ⟨by omega, by omega⟩ ⟨by omega, by omega⟩ dL_law_1322 (fun k M1 F1 H locs hk hp Wd => ?_)
  refine z_istore C0 hl [(6, .int (zI k)), (5, .int (zI i)), (0, .ref b), (1, .ref (ad 0)), (2, .ref (ad 398)), (3, .ref (ad 408)), (4, .ref (ad 409))] (by decide) rfl dL_law_1325 (fun ls hl => ?_)
  refine z_aload_n C0 hl 4 rfl dL_law_1327 ?_
  refine z_aload_n C0 hl 2 rfl dL_law_1328 ?_
  refine z_iload C0 hl 1 rfl dL_law_1329 ?_
  refine z_iconst C0 dL_law_1331 ?_
  refine z_iadd C0 dL_law_1332 ?_
  refine z_sld C0 Wd hX hbl (Nat.not_le.mpr hbl) (by omega) (by omega) hL dL_law_1333 ?_
  obtain ⟨pm, hm1, hm2⟩ := hh2 k M1 F1 hp Wd.2
  refine z_invAi (As := [.int (zI (sx xs (i + 1)))]) (rest := []) C0 Wd hm1 hm2 kv_X12_latestNumber zN398 (zE_9 zK398) rfl zk_1837 rfl hl.1 rfl (Nat.le_of_ble_eq_true rfl) ⟨by omega, by omega⟩ ⟨by omega, by omega⟩ dL_law_1334 (fun bb M2 F2 H locs hbz e8 e9 hcr Wd => ?_)
  refine z_istore C0 hl [(7, .int (zI bb)), (6, .int (zI k)), (5, .int (zI i)), (0, .ref b), (1, .ref (ad 0)), (2, .ref (ad 398)), (3, .ref (ad 408)), (4, .ref (ad 409))] (by decide) rfl dL_law_1337 (fun ls hl => ?_)
  refine z_aload_n C0 hl 5 rfl dL_law_1339 ?_
  refine z_invVi (As := []) (rest := []) C0 Wd (ct_X12_thrown l g ad M2 F2) kv_X12_thrown zN398 (zE_9 zK398) rfl zk_1670 rfl hl.1 rfl (Nat.le_of_ble_eq_true rfl) ⟨by omega, by omega⟩ ⟨by omega, by omega⟩ dL_law_1340 (fun r3 M3 F3 H locs hr3 hp3 Wd => ?_)
  obtain ⟨rfl, rfl, rfl⟩ := hp3
  refine z_iload C0 hl 1 rfl dL_law_1343 ?_
  refine z_icmp_eq C0 (tgt := 1350) hr3 hk dL_law_1345 (by decide) (fun _ => ?_) (fun c9 => absurd e8 c9)
  refine z_iload C0 hl 1 rfl dL_law_1350 ?_
  refine z_if_ne C0 (tgt := 1367) hk dL_law_1352 (by decide) (fun k0 => ?_) (fun k0 => ?_)
  · skip
    refine z_goto C0 (tgt := 2902) dL_law_1367 (by decide) ?_
    exact kk M2 F2 H locs ls _ _ (zCR_up hcr (by omega) (by omega)) Wd (lv_sub hl [2, 3, 4, 5, 6, 7] rfl) (by omega) (by omega)
  · skip
    have e9 := e9 k0
    refine z_aload_n C0 hl 6 rfl dL_law_1355 ?_
    refine z_iconst C0 dL_law_1356 ?_
    refine z_lald C0 Wd zN408 zK408 zL408 (by decide) (by decide) (by decide) dL_law_1357 ?_
    refine z_iload C0 hl 0 rfl dL_law_1358 ?_
    refine z_i2l C0 hbz dL_law_1360 ?_
    refine z_lcmpE C0 e9 dL_law_1361 ?_
    refine z_if_eq C0 (tgt := 1367) (zR_mk (by decide) (by decide)) dL_law_1362 (by decide) (fun _ => ?_) (fun h9 => absurd rfl h9)
    refine z_goto C0 (tgt := 2902) dL_law_1367 (by decide) ?_
    exact kk M2 F2 H locs ls _ _ (zCR_up hcr (by omega) (by omega)) Wd (lv_sub hl [2, 3, 4, 5, 6, 7] rfl) (by omega) (by omega)
set_option maxHeartbeats 4000000 in
set_option maxRecDepth 100000 in
theorem cs_19 {g : zG} {ad : Int → Nat} {p : Program} {l : Launch} {e : Env} {R : Room} {s : State} {m : MethodId} {below : List Frame} {meth : Method} {c : Code} {Q : State → Prop} {b L : Nat} {xs : Nat → Int32} {H : Heap} {locs : List Loc} {cells slots : Nat} {ls : Array Slot} {M F : zMem} {t d i : Int} (C0 : zC g (fun q => s.heap.size ≤ q) p s m #[.ref b] c cL_law 9 "DrumWarrenLaw") (hX : va_X b L xs s s.heap) (hbl : b < s.heap.size) (hL : L ≤ 2048) (hst : l.stackTraces = false) (hR : 100 ≤ R.frames ∧ 10000 ≤ R.locals) (hf : cells + 3 ≤ R.cells ∧ slots + 18 ≤ R.slots) (Wd : zW g (fun q => s.heap.size ≤ q) s.heap 410 ad M F H locs) (hl : lv_has ls 9 [(5, .int (zI i)), (0, .ref b), (1, .ref (ad 0)), (2, .ref (ad 398)), (3, .ref (ad 408)), (4, .ref (ad 409))]) (h : zCR t d M F) (ht : t ≤ 50000000) (hd : d ≤ 9000) (i0 : 0 ≤ i) (i4 : i + 4 ≤ (L : Int)) (kk : ∀ (M' F' : zMem) (H1 : Heap) (locs1 : List Loc) (ls1 : Array Slot) (c1 s1 : Nat), zCR (t + 7000) (d + 9) M' F' → zW g (fun q => s.heap.size ≤ q) s.heap 410 ad M' F' H1 locs1 → lv_has ls1 9 [(5, .int (zI i)), (0, .ref b), (1, .ref (ad 0)), (2, .ref (ad 398)), (3, .ref (ad 408)), (4, .ref (ad 409))] → c1 ≤ cells + 3 → s1 ≤ slots + 18 → W p l e R s m #[.ref b] below meth c H1 locs1 c1 s1 Q (F0 m 2902 ls1 [])) : W p l e R s m #[.ref b] below meth c H locs cells slots Q (F0 m 1370 ls []) := by
  refine z_aload_n C0 hl 2 rfl dL_law_1370 ?_
  refine z_aload_n C0 hl 1 rfl dL_law_1371 ?_
  refine z_iload C0 hl 0 rfl dL_law_1372 ?_
  refine z_iconst C0 dL_law_1374 ?_
  refine z_iadd C0 dL_law_1375 ?_
  refine z_sld C0 Wd hX hbl (Nat.not_le.mpr hbl) (by omega) (by omega) hL dL_law_1376 ?_
  refine z_aload_n C0 hl 4 rfl dL_law_1377 ?_
  obtain ⟨post, hh1, hh2⟩ := lw_hareByReceived l g ad h ht hd Wd.2 (sx xs (i + 1)) (sx_R _ _)
  refine z_invSH (As := [.ref (ad 0), .int (zI (sx xs (i + 1))), .ref (ad 408)]) (rest := []) C0 Wd hst hh1 hs_hareByReceived zk_900 rfl hl.1 rfl (Nat.le_of_ble_eq_true rfl) ⟨by omega, by omega⟩ ⟨by omega, by omega⟩ dL_law_1378 (fun k M1 F1 H locs hk hp Wd => ?_)
  refine z_istore C0 hl [(6, .int (zI k)), (5, .int (zI i)), (0, .ref b), (1, .ref (ad 0)), (2, .ref (ad 398)), (3, .ref (ad 408)), (4, .ref (ad 409))] (by decide) rfl dL_law_1381 (fun ls hl => ?_)
  refine z_aload_n C0 hl 4 rfl dL_law_1383 ?_
  refine z_aload_n C0 hl 2 rfl dL_law_1384 ?_
  refine z_iload C0 hl 1 rfl dL_law_1385 ?_
  refine z_iconst C0 dL_law_1387 ?_
  refine z_iadd C0 dL_law_1388 ?_
  refine z_sld C0 Wd hX hbl (Nat.not_le.mpr hbl) (by omega) (by omega) hL dL_law_1389 ?_
  obtain ⟨pm, hm1, hm2⟩ := hh2 k M1 F1 hp Wd.2
  refine z_invAi (As := [.int (zI (sx xs (i + 1)))]) (rest := []) C0 Wd hm1 hm2 kv_X12_hareByReceived zN398 (zE_9 zK398) rfl zk_1841 rfl hl.1 rfl (Nat.le_of_ble_eq_true rfl) ⟨by omega, by omega⟩ ⟨by omega, by omega⟩ dL_law_1390 (fun bb M2 F2 H locs hbz e8 e9 hcr Wd => ?_)
  refine z_istore C0 hl [(7, .int (zI bb)), (6, .int (zI k)), (5, .int (zI i)), (0, .ref b), (1, .ref (ad 0)), (2, .ref (ad 398)), (3, .ref (ad 408)), (4, .ref (ad 409))] (by decide) rfl dL_law_1393 (fun ls hl => ?_)
  refine z_aload_n C0 hl 5 rfl dL_law_1395 ?_
  refine z_invVi (As := []) (rest := []) C0 Wd (ct_X12_thrown l g ad M2 F2) kv_X12_thrown zN398 (zE_9 zK398) rfl zk_1670 rfl hl.1 rfl (Nat.le_of_ble_eq_true rfl) ⟨by omega, by omega⟩ ⟨by omega, by omega⟩ dL_law_1396 (fun r3 M3 F3 H locs hr3 hp3 Wd => ?_)
  obtain ⟨rfl, rfl, rfl⟩ := hp3
  refine z_iload C0 hl 1 rfl dL_law_1399 ?_
  refine z_icmp_eq C0 (tgt := 1406) hr3 hk dL_law_1401 (by decide) (fun _ => ?_) (fun c9 => absurd e8 c9)
  refine z_iload C0 hl 1 rfl dL_law_1406 ?_
  refine z_if_ne C0 (tgt := 1423) hk dL_law_1408 (by decide) (fun k0 => ?_) (fun k0 => ?_)
  · skip
    refine z_goto C0 (tgt := 2902) dL_law_1423 (by decide) ?_
    exact kk M2 F2 H locs ls _ _ (zCR_up hcr (by omega) (by omega)) Wd (lv_sub hl [2, 3, 4, 5, 6, 7] rfl) (by omega) (by omega)
  · skip
    have e9 := e9 k0
    refine z_aload_n C0 hl 6 rfl dL_law_1411 ?_
    refine z_iconst C0 dL_law_1412 ?_
    refine z_lald C0 Wd zN408 zK408 zL408 (by decide) (by decide) (by decide) dL_law_1413 ?_
    refine z_iload C0 hl 0 rfl dL_law_1414 ?_
    refine z_i2l C0 hbz dL_law_1416 ?_
    refine z_lcmpE C0 e9 dL_law_1417 ?_
    refine z_if_eq C0 (tgt := 1423) (zR_mk (by decide) (by decide)) dL_law_1418 (by decide) (fun _ => ?_) (fun h9 => absurd rfl h9)
    refine z_goto C0 (tgt := 2902) dL_law_1423 (by decide) ?_
    exact kk M2 F2 H locs ls _ _ (zCR_up hcr (by omega) (by omega)) Wd (lv_sub hl [2, 3, 4, 5, 6, 7] rfl) (by omega) (by omega)
set_option maxHeartbeats 4000000 in
set_option maxRecDepth 100000 in
theorem cs_20 {g : zG} {ad : Int → Nat} {p : Program} {l : Launch} {e : Env} {R : Room} {s : State} {m : MethodId} {below : List Frame} {meth : Method} {c : Code} {Q : State → Prop} {b L : Nat} {xs : Nat → Int32} {H : Heap} {locs : List Loc} {cells slots : Nat} {ls : Array Slot} {M F : zMem} {t d i : Int} (C0 : zC g (fun q => s.heap.size ≤ q) p s m #[.ref b] c cL_law 9 "DrumWarrenLaw") (hX : va_X b L xs s s.heap) (hbl : b < s.heap.size) (hL : L ≤ 2048) (hst : l.stackTraces = false) (hR : 100 ≤ R.frames ∧ 10000 ≤ R.locals) (hf : cells + 3 ≤ R.cells ∧ slots + 18 ≤ R.slots) (Wd : zW g (fun q => s.heap.size ≤ q) s.heap 410 ad M F H locs) (hl : lv_has ls 9 [(5, .int (zI i)), (0, .ref b), (1, .ref (ad 0)), (2, .ref (ad 398)), (3, .ref (ad 408)), (4, .ref (ad 409))]) (h : zCR t d M F) (ht : t ≤ 50000000) (hd : d ≤ 9000) (i0 : 0 ≤ i) (i4 : i + 4 ≤ (L : Int)) (kk : ∀ (M' F' : zMem) (H1 : Heap) (locs1 : List Loc) (ls1 : Array Slot) (c1 s1 : Nat), zCR (t + 7000) (d + 9) M' F' → zW g (fun q => s.heap.size ≤ q) s.heap 410 ad M' F' H1 locs1 → lv_has ls1 9 [(5, .int (zI i)), (0, .ref b), (1, .ref (ad 0)), (2, .ref (ad 398)), (3, .ref (ad 408)), (4, .ref (ad 409))] → c1 ≤ cells + 3 → s1 ≤ slots + 18 → W p l e R s m #[.ref b] below meth c H1 locs1 c1 s1 Q (F0 m 2902 ls1 [])) : W p l e R s m #[.ref b] below meth c H locs cells slots Q (F0 m 1426 ls []) := by
  refine z_aload_n C0 hl 2 rfl dL_law_1426 ?_
  refine z_aload_n C0 hl 1 rfl dL_law_1427 ?_
  refine z_iload C0 hl 0 rfl dL_law_1428 ?_
  refine z_iconst C0 dL_law_1430 ?_
  refine z_iadd C0 dL_law_1431 ?_
  refine z_sld C0 Wd hX hbl (Nat.not_le.mpr hbl) (by omega) (by omega) hL dL_law_1432 ?_
  refine z_aload_n C0 hl 1 rfl dL_law_1433 ?_
  refine z_iload C0 hl 0 rfl dL_law_1434 ?_
  refine z_iconst C0 dL_law_1436 ?_
  refine z_iadd C0 dL_law_1437 ?_
  refine z_sld C0 Wd hX hbl (Nat.not_le.mpr hbl) (by omega) (by omega) hL dL_law_1438 ?_
  refine z_aload_n C0 hl 1 rfl dL_law_1439 ?_
  refine z_iload C0 hl 0 rfl dL_law_1440 ?_
  refine z_iconst C0 dL_law_1442 ?_
  refine z_iadd C0 dL_law_1443 ?_
  refine z_sld C0 Wd hX hbl (Nat.not_le.mpr hbl) (by omega) (by omega) hL dL_law_1444 ?_
  refine z_aload_n C0 hl 4 rfl dL_law_1445 ?_
  obtain ⟨post, hh1, hh2⟩ := lw_say l g ad h ht hd Wd.2 (sx xs (i + 1)) (sx_R _ _) (sx xs (i + 2)) (sx_R _ _) (sx xs (i + 3)) (sx_R _ _)
  refine z_invSH (As := [.ref (ad 0), .int (zI (sx xs (i + 1))), .int (zI (sx xs (i + 2))), .int (zI (sx xs (i + 3))), .ref (ad 408)]) (rest := []) C0 Wd hst hh1 hs_say zk_913 rfl hl.1 rfl (Nat.le_of_ble_eq_true rfl) ⟨by omega, by omega⟩ ⟨by omega, by omega⟩ dL_law_1446 (fun k M1 F1 H locs hk hp Wd => ?_)
  refine z_istore C0 hl [(6, .int (zI k)), (5, .int (zI i)), (0, .ref b), (1, .ref (ad 0)), (2, .ref (ad 398)), (3, .ref (ad 408)), (4, .ref (ad 409))] (by decide) rfl dL_law_1449 (fun ls hl => ?_)
  refine z_aload_n C0 hl 4 rfl dL_law_1451 ?_
  refine z_aload_n C0 hl 2 rfl dL_law_1452 ?_
  refine z_iload C0 hl 1 rfl dL_law_1453 ?_
  refine z_iconst C0 dL_law_1455 ?_
  refine z_iadd C0 dL_law_1456 ?_
  refine z_sld C0 Wd hX hbl (Nat.not_le.mpr hbl) (by omega) (by omega) hL dL_law_1457 ?_
  refine z_aload_n C0 hl 2 rfl dL_law_1458 ?_
  refine z_iload C0 hl 1 rfl dL_law_1459 ?_
  refine z_iconst C0 dL_law_1461 ?_
  refine z_iadd C0 dL_law_1462 ?_
  refine z_sld C0 Wd hX hbl (Nat.not_le.mpr hbl) (by omega) (by omega) hL dL_law_1463 ?_
  refine z_aload_n C0 hl 2 rfl dL_law_1464 ?_
  refine z_iload C0 hl 1 rfl dL_law_1465 ?_
  refine z_iconst C0 dL_law_1467 ?_
  refine z_iadd C0 dL_law_1468 ?_
  refine z_sld C0 Wd hX hbl (Nat.not_le.mpr hbl) (by omega) (by omega) hL dL_law_1469 ?_
  obtain ⟨pm, hm1, hm2⟩ := hh2 k M1 F1 hp Wd.2
  refine z_invAi (As := [.int (zI (sx xs (i + 1))), .int (zI (sx xs (i + 2))), .int (zI (sx xs (i + 3)))]) (rest := []) C0 Wd hm1 hm2 kv_X12_say zN398 (zE_9 zK398) rfl zk_1845 rfl hl.1 rfl (Nat.le_of_ble_eq_true rfl) ⟨by omega, by omega⟩ ⟨by omega, by omega⟩ dL_law_1470 (fun bb M2 F2 H locs hbz e8 e9 hcr Wd => ?_)
  refine z_istore C0 hl [(7, .int (zI bb)), (6, .int (zI k)), (5, .int (zI i)), (0, .ref b), (1, .ref (ad 0)), (2, .ref (ad 398)), (3, .ref (ad 408)), (4, .ref (ad 409))] (by decide) rfl dL_law_1473 (fun ls hl => ?_)
  refine z_aload_n C0 hl 5 rfl dL_law_1475 ?_
  refine z_invVi (As := []) (rest := []) C0 Wd (ct_X12_thrown l g ad M2 F2) kv_X12_thrown zN398 (zE_9 zK398) rfl zk_1670 rfl hl.1 rfl (Nat.le_of_ble_eq_true rfl) ⟨by omega, by omega⟩ ⟨by omega, by omega⟩ dL_law_1476 (fun r3 M3 F3 H locs hr3 hp3 Wd => ?_)
  obtain ⟨rfl, rfl, rfl⟩ := hp3
  refine z_iload C0 hl 1 rfl dL_law_1479 ?_
  refine z_icmp_eq C0 (tgt := 1486) hr3 hk dL_law_1481 (by decide) (fun _ => ?_) (fun c9 => absurd e8 c9)
  refine z_iload C0 hl 1 rfl dL_law_1486 ?_
  refine z_if_ne C0 (tgt := 1503) hk dL_law_1488 (by decide) (fun k0 => ?_) (fun k0 => ?_)
  · skip
    refine z_goto C0 (tgt := 2902) dL_law_1503 (by decide) ?_
    exact kk M2 F2 H locs ls _ _ (zCR_up hcr (by omega) (by omega)) Wd (lv_sub hl [2, 3, 4, 5, 6, 7] rfl) (by omega) (by omega)
  · skip
    have e9 := e9 k0
    refine z_aload_n C0 hl 6 rfl dL_law_1491 ?_
    refine z_iconst C0 dL_law_1492 ?_
    refine z_lald C0 Wd zN408 zK408 zL408 (by decide) (by decide) (by decide) dL_law_1493 ?_
    refine z_iload C0 hl 0 rfl dL_law_1494 ?_
    refine z_i2l C0 hbz dL_law_1496 ?_
    refine z_lcmpE C0 e9 dL_law_1497 ?_
    refine z_if_eq C0 (tgt := 1503) (zR_mk (by decide) (by decide)) dL_law_1498 (by decide) (fun _ => ?_) (fun h9 => absurd rfl h9)
    refine z_goto C0 (tgt := 2902) dL_law_1503 (by decide) ?_
    exact kk M2 F2 H locs ls _ _ (zCR_up hcr (by omega) (by omega)) Wd (lv_sub hl [2, 3, 4, 5, 6, 7] rfl) (by omega) (by omega)
set_option maxHeartbeats 4000000 in
set_option maxRecDepth 100000 in
theorem cs_21 {g : zG} {ad : Int → Nat} {p : Program} {l : Launch} {e : Env} {R : Room} {s : State} {m : MethodId} {below : List Frame} {meth : Method} {c : Code} {Q : State → Prop} {b L : Nat} {xs : Nat → Int32} {H : Heap} {locs : List Loc} {cells slots : Nat} {ls : Array Slot} {M F : zMem} {t d i : Int} (C0 : zC g (fun q => s.heap.size ≤ q) p s m #[.ref b] c cL_law 9 "DrumWarrenLaw") (hX : va_X b L xs s s.heap) (hbl : b < s.heap.size) (hL : L ≤ 2048) (hst : l.stackTraces = false) (hR : 100 ≤ R.frames ∧ 10000 ≤ R.locals) (hf : cells + 3 ≤ R.cells ∧ slots + 18 ≤ R.slots) (Wd : zW g (fun q => s.heap.size ≤ q) s.heap 410 ad M F H locs) (hl : lv_has ls 9 [(5, .int (zI i)), (0, .ref b), (1, .ref (ad 0)), (2, .ref (ad 398)), (3, .ref (ad 408)), (4, .ref (ad 409))]) (h : zCR t d M F) (ht : t ≤ 50000000) (hd : d ≤ 9000) (i0 : 0 ≤ i) (i4 : i + 4 ≤ (L : Int)) (kk : ∀ (M' F' : zMem) (H1 : Heap) (locs1 : List Loc) (ls1 : Array Slot) (c1 s1 : Nat), zCR (t + 7000) (d + 9) M' F' → zW g (fun q => s.heap.size ≤ q) s.heap 410 ad M' F' H1 locs1 → lv_has ls1 9 [(5, .int (zI i)), (0, .ref b), (1, .ref (ad 0)), (2, .ref (ad 398)), (3, .ref (ad 408)), (4, .ref (ad 409))] → c1 ≤ cells + 3 → s1 ≤ slots + 18 → W p l e R s m #[.ref b] below meth c H1 locs1 c1 s1 Q (F0 m 2902 ls1 [])) : W p l e R s m #[.ref b] below meth c H locs cells slots Q (F0 m 1506 ls []) := by
  refine z_aload_n C0 hl 2 rfl dL_law_1506 ?_
  refine z_aload_n C0 hl 1 rfl dL_law_1507 ?_
  refine z_iload C0 hl 0 rfl dL_law_1508 ?_
  refine z_iconst C0 dL_law_1510 ?_
  refine z_iadd C0 dL_law_1511 ?_
  refine z_sld C0 Wd hX hbl (Nat.not_le.mpr hbl) (by omega) (by omega) hL dL_law_1512 ?_
  refine z_aload_n C0 hl 4 rfl dL_law_1513 ?_
  obtain ⟨post, hh1, hh2⟩ := lw_forget l g ad h ht hd Wd.2 (sx xs (i + 1)) (sx_R _ _)
  refine z_invSH (As := [.ref (ad 0), .int (zI (sx xs (i + 1))), .ref (ad 408)]) (rest := []) C0 Wd hst hh1 hs_forget zk_928 rfl hl.1 rfl (Nat.le_of_ble_eq_true rfl) ⟨by omega, by omega⟩ ⟨by omega, by omega⟩ dL_law_1514 (fun k M1 F1 H locs hk hp Wd => ?_)
  refine z_istore C0 hl [(6, .int (zI k)), (5, .int (zI i)), (0, .ref b), (1, .ref (ad 0)), (2, .ref (ad 398)), (3, .ref (ad 408)), (4, .ref (ad 409))] (by decide) rfl dL_law_1517 (fun ls hl => ?_)
  refine z_aload_n C0 hl 4 rfl dL_law_1519 ?_
  refine z_aload_n C0 hl 2 rfl dL_law_1520 ?_
  refine z_iload C0 hl 1 rfl dL_law_1521 ?_
  refine z_iconst C0 dL_law_1523 ?_
  refine z_iadd C0 dL_law_1524 ?_
  refine z_sld C0 Wd hX hbl (Nat.not_le.mpr hbl) (by omega) (by omega) hL dL_law_1525 ?_
  obtain ⟨pm, hm1, hm2⟩ := hh2 k M1 F1 hp Wd.2
  refine z_invAi (As := [.int (zI (sx xs (i + 1)))]) (rest := []) C0 Wd hm1 hm2 kv_X12_forget zN398 (zE_9 zK398) rfl zk_1857 rfl hl.1 rfl (Nat.le_of_ble_eq_true rfl) ⟨by omega, by omega⟩ ⟨by omega, by omega⟩ dL_law_1526 (fun bb M2 F2 H locs hbz e8 e9 hcr Wd => ?_)
  refine z_istore C0 hl [(7, .int (zI bb)), (6, .int (zI k)), (5, .int (zI i)), (0, .ref b), (1, .ref (ad 0)), (2, .ref (ad 398)), (3, .ref (ad 408)), (4, .ref (ad 409))] (by decide) rfl dL_law_1529 (fun ls hl => ?_)
  refine z_aload_n C0 hl 5 rfl dL_law_1531 ?_
  refine z_invVi (As := []) (rest := []) C0 Wd (ct_X12_thrown l g ad M2 F2) kv_X12_thrown zN398 (zE_9 zK398) rfl zk_1670 rfl hl.1 rfl (Nat.le_of_ble_eq_true rfl) ⟨by omega, by omega⟩ ⟨by omega, by omega⟩ dL_law_1532 (fun r3 M3 F3 H locs hr3 hp3 Wd => ?_)
  obtain ⟨rfl, rfl, rfl⟩ := hp3
  refine z_iload C0 hl 1 rfl dL_law_1535 ?_
  refine z_icmp_eq C0 (tgt := 1542) hr3 hk dL_law_1537 (by decide) (fun _ => ?_) (fun c9 => absurd e8 c9)
  refine z_iload C0 hl 1 rfl dL_law_1542 ?_
  refine z_if_ne C0 (tgt := 1559) hk dL_law_1544 (by decide) (fun k0 => ?_) (fun k0 => ?_)
  · skip
    refine z_goto C0 (tgt := 2902) dL_law_1559 (by decide) ?_
    exact kk M2 F2 H locs ls _ _ (zCR_up hcr (by omega) (by omega)) Wd (lv_sub hl [2, 3, 4, 5, 6, 7] rfl) (by omega) (by omega)
  · skip
    have e9 := e9 k0
    refine z_aload_n C0 hl 6 rfl dL_law_1547 ?_
    refine z_iconst C0 dL_law_1548 ?_
    refine z_lald C0 Wd zN408 zK408 zL408 (by decide) (by decide) (by decide) dL_law_1549 ?_
    refine z_iload C0 hl 0 rfl dL_law_1550 ?_
    refine z_i2l C0 hbz dL_law_1552 ?_
    refine z_lcmpE C0 e9 dL_law_1553 ?_
    refine z_if_eq C0 (tgt := 1559) (zR_mk (by decide) (by decide)) dL_law_1554 (by decide) (fun _ => ?_) (fun h9 => absurd rfl h9)
    refine z_goto C0 (tgt := 2902) dL_law_1559 (by decide) ?_
    exact kk M2 F2 H locs ls _ _ (zCR_up hcr (by omega) (by omega)) Wd (lv_sub hl [2, 3, 4, 5, 6, 7] rfl) (by omega) (by omega)
set_option maxHeartbeats 4000000 in
set_option maxRecDepth 100000 in
theorem cs_22 {g : zG} {ad : Int → Nat} {p : Program} {l : Launch} {e : Env} {R : Room} {s : State} {m : MethodId} {below : List Frame} {meth : Method} {c : Code} {Q : State → Prop} {b L : Nat} {xs : Nat → Int32} {H : Heap} {locs : List Loc} {cells slots : Nat} {ls : Array Slot} {M F : zMem} {t d i : Int} (C0 : zC g (fun q => s.heap.size ≤ q) p s m #[.ref b] c cL_law 9 "DrumWarrenLaw") (hX : va_X b L xs s s.heap) (hbl : b < s.heap.size) (hL : L ≤ 2048) (hst : l.stackTraces = false) (hR : 100 ≤ R.frames ∧ 10000 ≤ R.locals) (hf : cells + 3 ≤ R.cells ∧ slots + 18 ≤ R.slots) (Wd : zW g (fun q => s.heap.size ≤ q) s.heap 410 ad M F H locs) (hl : lv_has ls 9 [(5, .int (zI i)), (0, .ref b), (1, .ref (ad 0)), (2, .ref (ad 398)), (3, .ref (ad 408)), (4, .ref (ad 409))]) (h : zCR t d M F) (ht : t ≤ 50000000) (hd : d ≤ 9000) (i0 : 0 ≤ i) (i4 : i + 4 ≤ (L : Int)) (kk : ∀ (M' F' : zMem) (H1 : Heap) (locs1 : List Loc) (ls1 : Array Slot) (c1 s1 : Nat), zCR (t + 7000) (d + 9) M' F' → zW g (fun q => s.heap.size ≤ q) s.heap 410 ad M' F' H1 locs1 → lv_has ls1 9 [(5, .int (zI i)), (0, .ref b), (1, .ref (ad 0)), (2, .ref (ad 398)), (3, .ref (ad 408)), (4, .ref (ad 409))] → c1 ≤ cells + 3 → s1 ≤ slots + 18 → W p l e R s m #[.ref b] below meth c H1 locs1 c1 s1 Q (F0 m 2902 ls1 [])) : W p l e R s m #[.ref b] below meth c H locs cells slots Q (F0 m 1562 ls []) := by
  refine z_aload_n C0 hl 2 rfl dL_law_1562 ?_
  obtain ⟨post, hh1, hh2⟩ := lp_messageCount l g ad h ht hd Wd.2
  refine z_invVi (As := []) (rest := []) C0 Wd hh1 kv_X11_messageCount zN0 (zE_8 zK0) rfl zk_421 rfl hl.1 rfl (Nat.le_of_ble_eq_true rfl) ⟨by omega, by omega⟩ ⟨by omega, by omega⟩ dL_law_1563 (fun k M1 F1 H locs hk hp Wd => ?_)
  refine z_aload_n C0 hl 3 rfl dL_law_1566 ?_
  obtain ⟨pm, hm1, hm2⟩ := hh2 k M1 F1 hp Wd.2
  refine z_invVi (As := []) (rest := [.int (zI k)]) C0 Wd hm1 kv_X12_messageCount zN398 (zE_9 zK398) rfl zk_1869 rfl hl.1 rfl (Nat.le_of_ble_eq_true rfl) ⟨by omega, by omega⟩ ⟨by omega, by omega⟩ dL_law_1567 (fun bb M2 F2 H locs hbz hp2 Wd => ?_)
  obtain ⟨e9, hcr⟩ := hm2 bb M2 F2 hp2
  refine z_icmp_eq C0 (tgt := 2902) hk hbz dL_law_1570 (by decide) (fun _ => ?_) (fun c9 => absurd e9.symm c9)
  exact kk M2 F2 H locs ls _ _ (zCR_up hcr (by omega) (by omega)) Wd (lv_sub hl [0, 1, 2, 3, 4, 5] rfl) (by omega) (by omega)
set_option maxHeartbeats 4000000 in
set_option maxRecDepth 100000 in
theorem cs_23 {g : zG} {ad : Int → Nat} {p : Program} {l : Launch} {e : Env} {R : Room} {s : State} {m : MethodId} {below : List Frame} {meth : Method} {c : Code} {Q : State → Prop} {b L : Nat} {xs : Nat → Int32} {H : Heap} {locs : List Loc} {cells slots : Nat} {ls : Array Slot} {M F : zMem} {t d i : Int} (C0 : zC g (fun q => s.heap.size ≤ q) p s m #[.ref b] c cL_law 9 "DrumWarrenLaw") (hX : va_X b L xs s s.heap) (hbl : b < s.heap.size) (hL : L ≤ 2048) (hst : l.stackTraces = false) (hR : 100 ≤ R.frames ∧ 10000 ≤ R.locals) (hf : cells + 3 ≤ R.cells ∧ slots + 18 ≤ R.slots) (Wd : zW g (fun q => s.heap.size ≤ q) s.heap 410 ad M F H locs) (hl : lv_has ls 9 [(5, .int (zI i)), (0, .ref b), (1, .ref (ad 0)), (2, .ref (ad 398)), (3, .ref (ad 408)), (4, .ref (ad 409))]) (h : zCR t d M F) (ht : t ≤ 50000000) (hd : d ≤ 9000) (i0 : 0 ≤ i) (i4 : i + 4 ≤ (L : Int)) (kk : ∀ (M' F' : zMem) (H1 : Heap) (locs1 : List Loc) (ls1 : Array Slot) (c1 s1 : Nat), zCR (t + 7000) (d + 9) M' F' → zW g (fun q => s.heap.size ≤ q) s.heap 410 ad M' F' H1 locs1 → lv_has ls1 9 [(5, .int (zI i)), (0, .ref b), (1, .ref (ad 0)), (2, .ref (ad 398)), (3, .ref (ad 408)), (4, .ref (ad 409))] → c1 ≤ cells + 3 → s1 ≤ slots + 18 → W p l e R s m #[.ref b] below meth c H1 locs1 c1 s1 Q (F0 m 2902 ls1 [])) : W p l e R s m #[.ref b] below meth c H locs cells slots Q (F0 m 1575 ls []) := by
  refine z_aload_n C0 hl 2 rfl dL_law_1575 ?_
  refine z_aload_n C0 hl 1 rfl dL_law_1576 ?_
  refine z_iload C0 hl 0 rfl dL_law_1577 ?_
  refine z_iconst C0 dL_law_1579 ?_
  refine z_iadd C0 dL_law_1580 ?_
  refine z_sld C0 Wd hX hbl (Nat.not_le.mpr hbl) (by omega) (by omega) hL dL_law_1581 ?_
  refine z_aload_n C0 hl 4 rfl dL_law_1582 ?_
  obtain ⟨post, hh1, hh2⟩ := lw_message l g ad h ht hd Wd.2 (sx xs (i + 1)) (sx_R _ _)
  refine z_invSH (As := [.ref (ad 0), .int (zI (sx xs (i + 1))), .ref (ad 408)]) (rest := []) C0 Wd hst hh1 hs_message zk_944 rfl hl.1 rfl (Nat.le_of_ble_eq_true rfl) ⟨by omega, by omega⟩ ⟨by omega, by omega⟩ dL_law_1583 (fun k M1 F1 H locs hk hp Wd => ?_)
  refine z_istore C0 hl [(6, .int (zI k)), (5, .int (zI i)), (0, .ref b), (1, .ref (ad 0)), (2, .ref (ad 398)), (3, .ref (ad 408)), (4, .ref (ad 409))] (by decide) rfl dL_law_1586 (fun ls hl => ?_)
  refine z_aload_n C0 hl 4 rfl dL_law_1588 ?_
  refine z_aload_n C0 hl 2 rfl dL_law_1589 ?_
  refine z_iload C0 hl 1 rfl dL_law_1590 ?_
  refine z_iconst C0 dL_law_1592 ?_
  refine z_iadd C0 dL_law_1593 ?_
  refine z_sld C0 Wd hX hbl (Nat.not_le.mpr hbl) (by omega) (by omega) hL dL_law_1594 ?_
  obtain ⟨pm, hm1, hm2⟩ := hh2 k M1 F1 hp Wd.2
  refine z_invAi (As := [.int (zI (sx xs (i + 1)))]) (rest := []) C0 Wd hm1 hm2 kv_X12_message zN398 (zE_9 zK398) rfl zk_1873 rfl hl.1 rfl (Nat.le_of_ble_eq_true rfl) ⟨by omega, by omega⟩ ⟨by omega, by omega⟩ dL_law_1595 (fun bb M2 F2 H locs hbz e8 e9 hcr Wd => ?_)
  refine z_istore C0 hl [(7, .int (zI bb)), (6, .int (zI k)), (5, .int (zI i)), (0, .ref b), (1, .ref (ad 0)), (2, .ref (ad 398)), (3, .ref (ad 408)), (4, .ref (ad 409))] (by decide) rfl dL_law_1598 (fun ls hl => ?_)
  refine z_aload_n C0 hl 5 rfl dL_law_1600 ?_
  refine z_invVi (As := []) (rest := []) C0 Wd (ct_X12_thrown l g ad M2 F2) kv_X12_thrown zN398 (zE_9 zK398) rfl zk_1670 rfl hl.1 rfl (Nat.le_of_ble_eq_true rfl) ⟨by omega, by omega⟩ ⟨by omega, by omega⟩ dL_law_1601 (fun r3 M3 F3 H locs hr3 hp3 Wd => ?_)
  obtain ⟨rfl, rfl, rfl⟩ := hp3
  refine z_iload C0 hl 1 rfl dL_law_1604 ?_
  refine z_icmp_eq C0 (tgt := 1611) hr3 hk dL_law_1606 (by decide) (fun _ => ?_) (fun c9 => absurd e8 c9)
  refine z_iload C0 hl 1 rfl dL_law_1611 ?_
  refine z_if_ne C0 (tgt := 1628) hk dL_law_1613 (by decide) (fun k0 => ?_) (fun k0 => ?_)
  · skip
    refine z_goto C0 (tgt := 2902) dL_law_1628 (by decide) ?_
    exact kk M2 F2 H locs ls _ _ (zCR_up hcr (by omega) (by omega)) Wd (lv_sub hl [2, 3, 4, 5, 6, 7] rfl) (by omega) (by omega)
  · skip
    have e9 := e9 k0
    refine z_aload_n C0 hl 6 rfl dL_law_1616 ?_
    refine z_iconst C0 dL_law_1617 ?_
    refine z_lald C0 Wd zN408 zK408 zL408 (by decide) (by decide) (by decide) dL_law_1618 ?_
    refine z_iload C0 hl 0 rfl dL_law_1619 ?_
    refine z_i2l C0 hbz dL_law_1621 ?_
    refine z_lcmpE C0 e9 dL_law_1622 ?_
    refine z_if_eq C0 (tgt := 1628) (zR_mk (by decide) (by decide)) dL_law_1623 (by decide) (fun _ => ?_) (fun h9 => absurd rfl h9)
    refine z_goto C0 (tgt := 2902) dL_law_1628 (by decide) ?_
    exact kk M2 F2 H locs ls _ _ (zCR_up hcr (by omega) (by omega)) Wd (lv_sub hl [2, 3, 4, 5, 6, 7] rfl) (by omega) (by omega)
set_option maxHeartbeats 4000000 in
set_option maxRecDepth 100000 in
theorem cs_24 {g : zG} {ad : Int → Nat} {p : Program} {l : Launch} {e : Env} {R : Room} {s : State} {m : MethodId} {below : List Frame} {meth : Method} {c : Code} {Q : State → Prop} {b L : Nat} {xs : Nat → Int32} {H : Heap} {locs : List Loc} {cells slots : Nat} {ls : Array Slot} {M F : zMem} {t d i : Int} (C0 : zC g (fun q => s.heap.size ≤ q) p s m #[.ref b] c cL_law 9 "DrumWarrenLaw") (hX : va_X b L xs s s.heap) (hbl : b < s.heap.size) (hL : L ≤ 2048) (hst : l.stackTraces = false) (hR : 100 ≤ R.frames ∧ 10000 ≤ R.locals) (hf : cells + 3 ≤ R.cells ∧ slots + 18 ≤ R.slots) (Wd : zW g (fun q => s.heap.size ≤ q) s.heap 410 ad M F H locs) (hl : lv_has ls 9 [(5, .int (zI i)), (0, .ref b), (1, .ref (ad 0)), (2, .ref (ad 398)), (3, .ref (ad 408)), (4, .ref (ad 409))]) (h : zCR t d M F) (ht : t ≤ 50000000) (hd : d ≤ 9000) (i0 : 0 ≤ i) (i4 : i + 4 ≤ (L : Int)) (kk : ∀ (M' F' : zMem) (H1 : Heap) (locs1 : List Loc) (ls1 : Array Slot) (c1 s1 : Nat), zCR (t + 7000) (d + 9) M' F' → zW g (fun q => s.heap.size ≤ q) s.heap 410 ad M' F' H1 locs1 → lv_has ls1 9 [(5, .int (zI i)), (0, .ref b), (1, .ref (ad 0)), (2, .ref (ad 398)), (3, .ref (ad 408)), (4, .ref (ad 409))] → c1 ≤ cells + 3 → s1 ≤ slots + 18 → W p l e R s m #[.ref b] below meth c H1 locs1 c1 s1 Q (F0 m 2902 ls1 [])) : W p l e R s m #[.ref b] below meth c H locs cells slots Q (F0 m 1631 ls []) := by
  refine z_aload_n C0 hl 2 rfl dL_law_1631 ?_
  refine z_aload_n C0 hl 1 rfl dL_law_1632 ?_
  refine z_iload C0 hl 0 rfl dL_law_1633 ?_
  refine z_iconst C0 dL_law_1635 ?_
  refine z_iadd C0 dL_law_1636 ?_
  refine z_sld C0 Wd hX hbl (Nat.not_le.mpr hbl) (by omega) (by omega) hL dL_law_1637 ?_
  refine z_aload_n C0 hl 4 rfl dL_law_1638 ?_
  obtain ⟨post, hh1, hh2⟩ := lw_sender l g ad h ht hd Wd.2 (sx xs (i + 1)) (sx_R _ _)
  refine z_invSH (As := [.ref (ad 0), .int (zI (sx xs (i + 1))), .ref (ad 408)]) (rest := []) C0 Wd hst hh1 hs_sender zk_952 rfl hl.1 rfl (Nat.le_of_ble_eq_true rfl) ⟨by omega, by omega⟩ ⟨by omega, by omega⟩ dL_law_1639 (fun k M1 F1 H locs hk hp Wd => ?_)
  refine z_istore C0 hl [(6, .int (zI k)), (5, .int (zI i)), (0, .ref b), (1, .ref (ad 0)), (2, .ref (ad 398)), (3, .ref (ad 408)), (4, .ref (ad 409))] (by decide) rfl dL_law_1642 (fun ls hl => ?_)
  refine z_aload_n C0 hl 4 rfl dL_law_1644 ?_
  refine z_aload_n C0 hl 2 rfl dL_law_1645 ?_
  refine z_iload C0 hl 1 rfl dL_law_1646 ?_
  refine z_iconst C0 dL_law_1648 ?_
  refine z_iadd C0 dL_law_1649 ?_
  refine z_sld C0 Wd hX hbl (Nat.not_le.mpr hbl) (by omega) (by omega) hL dL_law_1650 ?_
  obtain ⟨pm, hm1, hm2⟩ := hh2 k M1 F1 hp Wd.2
  refine z_invAi (As := [.int (zI (sx xs (i + 1)))]) (rest := []) C0 Wd hm1 hm2 kv_X12_sender zN398 (zE_9 zK398) rfl zk_1877 rfl hl.1 rfl (Nat.le_of_ble_eq_true rfl) ⟨by omega, by omega⟩ ⟨by omega, by omega⟩ dL_law_1651 (fun bb M2 F2 H locs hbz e8 e9 hcr Wd => ?_)
  refine z_istore C0 hl [(7, .int (zI bb)), (6, .int (zI k)), (5, .int (zI i)), (0, .ref b), (1, .ref (ad 0)), (2, .ref (ad 398)), (3, .ref (ad 408)), (4, .ref (ad 409))] (by decide) rfl dL_law_1654 (fun ls hl => ?_)
  refine z_aload_n C0 hl 5 rfl dL_law_1656 ?_
  refine z_invVi (As := []) (rest := []) C0 Wd (ct_X12_thrown l g ad M2 F2) kv_X12_thrown zN398 (zE_9 zK398) rfl zk_1670 rfl hl.1 rfl (Nat.le_of_ble_eq_true rfl) ⟨by omega, by omega⟩ ⟨by omega, by omega⟩ dL_law_1657 (fun r3 M3 F3 H locs hr3 hp3 Wd => ?_)
  obtain ⟨rfl, rfl, rfl⟩ := hp3
  refine z_iload C0 hl 1 rfl dL_law_1660 ?_
  refine z_icmp_eq C0 (tgt := 1667) hr3 hk dL_law_1662 (by decide) (fun _ => ?_) (fun c9 => absurd e8 c9)
  refine z_iload C0 hl 1 rfl dL_law_1667 ?_
  refine z_if_ne C0 (tgt := 1684) hk dL_law_1669 (by decide) (fun k0 => ?_) (fun k0 => ?_)
  · skip
    refine z_goto C0 (tgt := 2902) dL_law_1684 (by decide) ?_
    exact kk M2 F2 H locs ls _ _ (zCR_up hcr (by omega) (by omega)) Wd (lv_sub hl [2, 3, 4, 5, 6, 7] rfl) (by omega) (by omega)
  · skip
    have e9 := e9 k0
    refine z_aload_n C0 hl 6 rfl dL_law_1672 ?_
    refine z_iconst C0 dL_law_1673 ?_
    refine z_lald C0 Wd zN408 zK408 zL408 (by decide) (by decide) (by decide) dL_law_1674 ?_
    refine z_iload C0 hl 0 rfl dL_law_1675 ?_
    refine z_i2l C0 hbz dL_law_1677 ?_
    refine z_lcmpE C0 e9 dL_law_1678 ?_
    refine z_if_eq C0 (tgt := 1684) (zR_mk (by decide) (by decide)) dL_law_1679 (by decide) (fun _ => ?_) (fun h9 => absurd rfl h9)
    refine z_goto C0 (tgt := 2902) dL_law_1684 (by decide) ?_
    exact kk M2 F2 H locs ls _ _ (zCR_up hcr (by omega) (by omega)) Wd (lv_sub hl [2, 3, 4, 5, 6, 7] rfl) (by omega) (by omega)
set_option maxHeartbeats 4000000 in
set_option maxRecDepth 100000 in
theorem cs_25 {g : zG} {ad : Int → Nat} {p : Program} {l : Launch} {e : Env} {R : Room} {s : State} {m : MethodId} {below : List Frame} {meth : Method} {c : Code} {Q : State → Prop} {b L : Nat} {xs : Nat → Int32} {H : Heap} {locs : List Loc} {cells slots : Nat} {ls : Array Slot} {M F : zMem} {t d i : Int} (C0 : zC g (fun q => s.heap.size ≤ q) p s m #[.ref b] c cL_law 9 "DrumWarrenLaw") (hX : va_X b L xs s s.heap) (hbl : b < s.heap.size) (hL : L ≤ 2048) (hst : l.stackTraces = false) (hR : 100 ≤ R.frames ∧ 10000 ≤ R.locals) (hf : cells + 3 ≤ R.cells ∧ slots + 18 ≤ R.slots) (Wd : zW g (fun q => s.heap.size ≤ q) s.heap 410 ad M F H locs) (hl : lv_has ls 9 [(5, .int (zI i)), (0, .ref b), (1, .ref (ad 0)), (2, .ref (ad 398)), (3, .ref (ad 408)), (4, .ref (ad 409))]) (h : zCR t d M F) (ht : t ≤ 50000000) (hd : d ≤ 9000) (i0 : 0 ≤ i) (i4 : i + 4 ≤ (L : Int)) (kk : ∀ (M' F' : zMem) (H1 : Heap) (locs1 : List Loc) (ls1 : Array Slot) (c1 s1 : Nat), zCR (t + 7000) (d + 9) M' F' → zW g (fun q => s.heap.size ≤ q) s.heap 410 ad M' F' H1 locs1 → lv_has ls1 9 [(5, .int (zI i)), (0, .ref b), (1, .ref (ad 0)), (2, .ref (ad 398)), (3, .ref (ad 408)), (4, .ref (ad 409))] → c1 ≤ cells + 3 → s1 ≤ slots + 18 → W p l e R s m #[.ref b] below meth c H1 locs1 c1 s1 Q (F0 m 2902 ls1 [])) : W p l e R s m #[.ref b] below meth c H locs cells slots Q (F0 m 1687 ls []) := by
  refine z_aload_n C0 hl 2 rfl dL_law_1687 ?_
  refine z_aload_n C0 hl 1 rfl dL_law_1688 ?_
  refine z_iload C0 hl 0 rfl dL_law_1689 ?_
  refine z_iconst C0 dL_law_1691 ?_
  refine z_iadd C0 dL_law_1692 ?_
  refine z_sld C0 Wd hX hbl (Nat.not_le.mpr hbl) (by omega) (by omega) hL dL_law_1693 ?_
  refine z_aload_n C0 hl 4 rfl dL_law_1694 ?_
  obtain ⟨post, hh1, hh2⟩ := lw_receiver l g ad h ht hd Wd.2 (sx xs (i + 1)) (sx_R _ _)
  refine z_invSH (As := [.ref (ad 0), .int (zI (sx xs (i + 1))), .ref (ad 408)]) (rest := []) C0 Wd hst hh1 hs_receiver zk_965 rfl hl.1 rfl (Nat.le_of_ble_eq_true rfl) ⟨by omega, by omega⟩ ⟨by omega, by omega⟩ dL_law_1695 (fun k M1 F1 H locs hk hp Wd => ?_)
  refine z_istore C0 hl [(6, .int (zI k)), (5, .int (zI i)), (0, .ref b), (1, .ref (ad 0)), (2, .ref (ad 398)), (3, .ref (ad 408)), (4, .ref (ad 409))] (by decide) rfl dL_law_1698 (fun ls hl => ?_)
  refine z_aload_n C0 hl 4 rfl dL_law_1700 ?_
  refine z_aload_n C0 hl 2 rfl dL_law_1701 ?_
  refine z_iload C0 hl 1 rfl dL_law_1702 ?_
  refine z_iconst C0 dL_law_1704 ?_
  refine z_iadd C0 dL_law_1705 ?_
  refine z_sld C0 Wd hX hbl (Nat.not_le.mpr hbl) (by omega) (by omega) hL dL_law_1706 ?_
  obtain ⟨pm, hm1, hm2⟩ := hh2 k M1 F1 hp Wd.2
  refine z_invAi (As := [.int (zI (sx xs (i + 1)))]) (rest := []) C0 Wd hm1 hm2 kv_X12_receiver zN398 (zE_9 zK398) rfl zk_1885 rfl hl.1 rfl (Nat.le_of_ble_eq_true rfl) ⟨by omega, by omega⟩ ⟨by omega, by omega⟩ dL_law_1707 (fun bb M2 F2 H locs hbz e8 e9 hcr Wd => ?_)
  refine z_istore C0 hl [(7, .int (zI bb)), (6, .int (zI k)), (5, .int (zI i)), (0, .ref b), (1, .ref (ad 0)), (2, .ref (ad 398)), (3, .ref (ad 408)), (4, .ref (ad 409))] (by decide) rfl dL_law_1710 (fun ls hl => ?_)
  refine z_aload_n C0 hl 5 rfl dL_law_1712 ?_
  refine z_invVi (As := []) (rest := []) C0 Wd (ct_X12_thrown l g ad M2 F2) kv_X12_thrown zN398 (zE_9 zK398) rfl zk_1670 rfl hl.1 rfl (Nat.le_of_ble_eq_true rfl) ⟨by omega, by omega⟩ ⟨by omega, by omega⟩ dL_law_1713 (fun r3 M3 F3 H locs hr3 hp3 Wd => ?_)
  obtain ⟨rfl, rfl, rfl⟩ := hp3
  refine z_iload C0 hl 1 rfl dL_law_1716 ?_
  refine z_icmp_eq C0 (tgt := 1723) hr3 hk dL_law_1718 (by decide) (fun _ => ?_) (fun c9 => absurd e8 c9)
  refine z_iload C0 hl 1 rfl dL_law_1723 ?_
  refine z_if_ne C0 (tgt := 1740) hk dL_law_1725 (by decide) (fun k0 => ?_) (fun k0 => ?_)
  · skip
    refine z_goto C0 (tgt := 2902) dL_law_1740 (by decide) ?_
    exact kk M2 F2 H locs ls _ _ (zCR_up hcr (by omega) (by omega)) Wd (lv_sub hl [2, 3, 4, 5, 6, 7] rfl) (by omega) (by omega)
  · skip
    have e9 := e9 k0
    refine z_aload_n C0 hl 6 rfl dL_law_1728 ?_
    refine z_iconst C0 dL_law_1729 ?_
    refine z_lald C0 Wd zN408 zK408 zL408 (by decide) (by decide) (by decide) dL_law_1730 ?_
    refine z_iload C0 hl 0 rfl dL_law_1731 ?_
    refine z_i2l C0 hbz dL_law_1733 ?_
    refine z_lcmpE C0 e9 dL_law_1734 ?_
    refine z_if_eq C0 (tgt := 1740) (zR_mk (by decide) (by decide)) dL_law_1735 (by decide) (fun _ => ?_) (fun h9 => absurd rfl h9)
    refine z_goto C0 (tgt := 2902) dL_law_1740 (by decide) ?_
    exact kk M2 F2 H locs ls _ _ (zCR_up hcr (by omega) (by omega)) Wd (lv_sub hl [2, 3, 4, 5, 6, 7] rfl) (by omega) (by omega)
