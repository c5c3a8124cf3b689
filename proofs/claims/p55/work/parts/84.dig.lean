/-! digits of a number, written -/
/-- the digits of a number below 10000, written before place i -/
def zgch (x i : Int) (M : zMem) : zMem :=
  if x < 10 then zu M 397 (i - 1) (48 + x % 10)
  else if x < 100 then zu (zu M 397 (i - 1) (48 + x % 10)) 397 (i - 1 - 1) (48 + x / 10)
  else if x < 1000 then zu (zu (zu M 397 (i - 1) (48 + x % 100 % 10)) 397 (i - 1 - 1) (48 + x % 100 / 10)) 397 (i - 1 - 1 - 1) (48 + x / 100 % 10)
  else zu (zu (zu (zu M 397 (i - 1) (48 + x % 100 % 10)) 397 (i - 1 - 1) (48 + x % 100 / 10)) 397 (i - 1 - 1 - 1) (48 + x / 100 % 10)) 397 (i - 1 - 1 - 1 - 1) (48 + x / 100 / 10)
theorem zlen_b (x : Int) : 1 ≤ zlen x ∧ zlen x ≤ 5 := by
  unfold zlen
  by_cases h1 : x < 10
  · rw [if_pos h1]; omega
  · rw [if_neg h1]
    by_cases h2 : x < 100
    · rw [if_pos h2]; omega
    · rw [if_neg h2]
      by_cases h3 : x < 1000
      · rw [if_pos h3]; omega
      · rw [if_neg h3]
        by_cases h4 : x < 10000
        · rw [if_pos h4]; omega
        · rw [if_neg h4]; omega
theorem zlen_g (x : Int) : 1 ≤ zlen x ∧ (10 ≤ x → 2 ≤ zlen x) ∧ (100 ≤ x → 3 ≤ zlen x) ∧ (1000 ≤ x → 4 ≤ zlen x) := by
  unfold zlen
  by_cases h1 : x < 10
  · rw [if_pos h1]; omega
  · rw [if_neg h1]
    by_cases h2 : x < 100
    · rw [if_pos h2]; omega
    · rw [if_neg h2]
      by_cases h3 : x < 1000
      · rw [if_pos h3]; omega
      · rw [if_neg h3]
        by_cases h4 : x < 10000
        · rw [if_pos h4]; omega
        · rw [if_neg h4]; omega
/-- a number's digits are added -/
def zapI (x : Int) (M : zMem) : zMem := zu (zgch x (M 396 3 + zlen x) M) 396 3 (M 396 3 + zlen x)
theorem zI_and255 {v : Int} (h0 : 0 ≤ v) (h1 : v < 128) : zI v &&& zI 255 = zI v := by
  have h : ∀ n : Fin 128, zI (n.val : Int) &&& zI 255 = zI (n.val : Int) := by decide +kernel
  have q := h ⟨v.toNat, by omega⟩
  rw [show (((⟨v.toNat, by omega⟩ : Fin 128).val : Nat) : Int) = v from Int.toNat_of_nonneg h0] at q
  exact q
theorem zgch_row {x i : Int} {M : zMem} {r : Int} (h : r ≠ 397) (j : Int) : zgch x i M r j = M r j := by
  unfold zgch
  by_cases h1 : x < 10
  · rw [if_pos h1, zu_ne (by omega)]
  · rw [if_neg h1]
    by_cases h2 : x < 100
    · rw [if_pos h2, zu_ne (by omega), zu_ne (by omega)]
    · rw [if_neg h2]
      by_cases h3 : x < 1000
      · rw [if_pos h3, zu_ne (by omega), zu_ne (by omega), zu_ne (by omega)]
      · rw [if_neg h3, zu_ne (by omega), zu_ne (by omega), zu_ne (by omega), zu_ne (by omega)]
theorem z_idivn {g : zG} {A : Nat → Prop} {p : Program} {l : Launch} {e : Env} {R : Room} {s : State} {m : MethodId} {args : Array Value} {below : List Frame} {meth : Method} {c : Code} {H : Heap} {locs : List Loc} {cells slots : Nat} {Q : State → Prop} {cc : ByteArray} {nL : Nat} {own : String} {pc : Nat} {ls : Array Slot} {rest : List Value} (C0 : zC g A p s m args c cc nL own) {x y : Int} (h0 : 0 ≤ x ∧ x < 2147483648) (hy : 0 < y ∧ y < 2147483648) (hdg : decode cc pc = .ok (.idiv, 1)) (k : W p l e R s m args below meth c H locs cells slots Q (F0 m (pc + 1) ls (.int (zI (-(x / y))) :: rest))) : W p l e R s m args below meth c H locs cells slots Q (F0 m pc ls (.int (zI y) :: .int (zI (-x)) :: rest)) := lv_idiv C0.1.1 C0.1.2.1 hdg (zI_nz hy.1 hy.2) (by rw [zI_divn h0.1 h0.2 hy.1 hy.2]; exact k)

theorem ku_J5_charAt_5068e : zKU9 yJ5_charAt_5068e yJ5_isLatin1_aae02 cJ5_charAt_5068e 5 (some .char) "java/lang/StringBuilder" "java/lang/StringBuilder" 4 1 := ⟨zk_1285, zk_1284, ⟨by decide +kernel, by decide +kernel, zk_1054, rfl⟩, by decide +kernel, by decide, by decide, by decide, by decide +kernel⟩
theorem ku_J5_append_c97b9 : zKU9 yJ5_append_c97b9 yJ5_isLatin1_aae02 cJ5_append_c97b9 4 (some (.object "java/lang/AbstractStringBuilder")) "java/lang/StringBuilder" "java/lang/StringBuilder" 4 1 := ⟨zk_1131, zk_1130, ⟨by decide +kernel, by decide +kernel, zk_1054, rfl⟩, by decide +kernel, by decide, by decide, by decide, by decide +kernel⟩

theorem kv_J6_getChars_ba4f3 : zKS yJ6_getChars_ba4f3 cJ6_getChars_ba4f3 7 (some .int) 3 := ⟨zk_1137, zk_1136, zk_53, by decide, by decide, by decide +kernel⟩
set_option maxHeartbeats 4000000 in
set_option maxRecDepth 100000 in
theorem ct_J6_getChars_ba4f3 (l : Launch) (g : zG) (N : zNs) (zb6 : zIn N 396) (zb7 : zIn N 397) (ad : Int → Nat) (zM0 zF0 : zMem) (x0 : Int) (hx0 : zR x0) (x1 : Int) (hx1 : zR x1) (h0 : 0 ≤ x0 ∧ x0 < 10000) (h1 : zlen x0 ≤ x1 ∧ x1 ≤ 16) : zMt l yJ6_getChars_ba4f3 cJ6_getChars_ba4f3 7 (some .int) 0 0 0 g N ad [.int (zI x0), .int (zI x1), .ref (ad 397)] zM0 zF0 (zPi (fun r M' F' => (x1 - zlen x0) = r ∧ (zgch x0 x1 zM0) = M' ∧ zF0 = F')) := by
  refine zMt.of "java/lang/Integer" rfl (by decide +kernel) (Nat.le_of_ble_eq_true rfl) (fun {p e s m args below meth c ls} C0 Wd hl hret hlk hin => ?_)
  have hl : lv_has ls 7 [(0, .int (zI x0)), (1, .int (zI x1)), (2, .ref (ad 397))] := hl
  have hzl := zlen_b x0
  obtain ⟨hg1, hg2, hg3, hg4⟩ := zlen_g x0
  refine z_iload_n C0 hl 1 rfl dJ6_getChars_ba4f3_0 ?_
  refine z_istore C0 hl [(5, .int (zI x1)), (0, .int (zI x0)), (1, .int (zI x1)), (2, .ref (ad 397))] (by decide) rfl dJ6_getChars_ba4f3_1 (fun ls hl => ?_)
  refine z_iload_n C0 hl 1 rfl dJ6_getChars_ba4f3_3 ?_
  refine z_if_ge C0 (tgt := 11) hx0 dJ6_getChars_ba4f3_4 (by decide) (fun c1 => ?_) (fun c1 => absurd c1 (by omega))
  refine z_iconst C0 dJ6_getChars_ba4f3_11 ?_
  refine z_istore C0 hl [(6, .int (zI 0)), (5, .int (zI x1)), (0, .int (zI x0)), (1, .int (zI x1)), (2, .ref (ad 397))] (by decide) rfl dJ6_getChars_ba4f3_12 (fun ls hl => ?_)
  refine z_iload C0 hl 0 rfl dJ6_getChars_ba4f3_14 ?_
  refine z_if_ne C0 (tgt := 22) (zR_mk (by decide) (by decide)) dJ6_getChars_ba4f3_16 (by decide) (fun h => absurd h (by decide)) (fun _ => ?_)
  refine z_iload_n C0 hl 2 rfl dJ6_getChars_ba4f3_19 ?_
  refine z_ineg C0 dJ6_getChars_ba4f3_20 ?_
  refine z_istore_n C0 hl [(0, .int (zI (-x0))), (6, .int (zI 0)), (5, .int (zI x1)), (1, .int (zI x1)), (2, .ref (ad 397))] (by decide) rfl dJ6_getChars_ba4f3_21 (fun ls hl => ?_)
  refine z_iload_n C0 hl 0 rfl dJ6_getChars_ba4f3_22 ?_
  refine z_bipush C0 dJ6_getChars_ba4f3_23 (by decide) ?_
  refine z_icmp_gt C0 (tgt := 72) (zR_mk (by omega) (by omega)) (zR_mk (by decide) (by decide)) dJ6_getChars_ba4f3_25 (by decide) (fun c3 => ?_) (fun c3 => ?_)
  · skip
    refine z_aload_n C0 hl 4 rfl dJ6_getChars_ba4f3_72 ?_
    refine z_iinc C0 hl 2 (t := x1) (u := (x1 - 1)) rfl (by omega) [(5, .int (zI (x1 - 1))), (0, .int (zI (-x0))), (6, .int (zI 0)), (1, .int (zI x1)), (2, .ref (ad 397))] (by decide) rfl dJ6_getChars_ba4f3_73 (fun ls hl => ?_)
    refine z_iload C0 hl 0 rfl dJ6_getChars_ba4f3_76 ?_
    refine z_gets C0 Wd (zc_S3 C0) zk_1138 dJ6_getChars_ba4f3_78 ?_
    refine z_iload_n C0 hl 1 rfl dJ6_getChars_ba4f3_81 ?_
    refine z_ineg C0 dJ6_getChars_ba4f3_82 ?_
    refine z_top (show zI (-(-x0)) = zI x0 from congrArg zI (by omega)) ?_
    refine z_tabb C0 Wd (zc_T3 C0) (by omega) (by omega) (by decide) (show Value.int (zI (48 + (((x0).toNat : Nat) : Int) % 10)) = .int (zI (48 + x0 % 10)) by rw [Int.toNat_of_nonneg (by omega)]) dJ6_getChars_ba4f3_83 ?_
    refine z_bast C0 Wd zb7 zK397 zL397 (by omega) (by omega) (by decide) (by omega) dJ6_getChars_ba4f3_84 (fun H locs Wd => ?_)
    refine z_iload_n C0 hl 1 rfl dJ6_getChars_ba4f3_85 ?_
    refine z_bipush C0 dJ6_getChars_ba4f3_86 (by decide) ?_
    refine z_icmp_ge C0 (tgt := 104) (zR_mk (by omega) (by omega)) (zR_mk (by decide) (by decide)) dJ6_getChars_ba4f3_88 (by decide) (fun c4 => ?_) (fun c4 => ?_)
    · skip
      refine z_iload C0 hl 2 rfl dJ6_getChars_ba4f3_104 ?_
      refine z_if_eq C0 (tgt := 118) (zR_mk (by decide) (by decide)) dJ6_getChars_ba4f3_106 (by decide) (fun _ => ?_) (fun h => absurd h (by decide))
      refine z_iload C0 hl 0 rfl dJ6_getChars_ba4f3_118 ?_
      exact z_iret C0 Wd hret hlk (by have q0 := hx1.1; have p0 := hx1.2; exact zR_mk (by omega) (by omega)) ⟨by unfold zlen; rw [if_pos (by omega)]; try omega, by unfold zgch; rw [if_pos (by omega)], rfl⟩ dJ6_getChars_ba4f3_120
    · skip
      refine z_aload_n C0 hl 4 rfl dJ6_getChars_ba4f3_91 ?_
      refine z_iinc C0 hl 0 (t := (x1 - 1)) (u := ((x1 - 1) - 1)) rfl (by omega) [(5, .int (zI ((x1 - 1) - 1))), (0, .int (zI (-x0))), (6, .int (zI 0)), (1, .int (zI x1)), (2, .ref (ad 397))] (by decide) rfl dJ6_getChars_ba4f3_92 (fun ls hl => ?_)
      refine z_iload C0 hl 0 rfl dJ6_getChars_ba4f3_95 ?_
      refine z_gets C0 Wd (zc_S4 C0) zk_1140 dJ6_getChars_ba4f3_97 ?_
      refine z_iload_n C0 hl 1 rfl dJ6_getChars_ba4f3_100 ?_
      refine z_ineg C0 dJ6_getChars_ba4f3_101 ?_
      refine z_top (show zI (-(-x0)) = zI x0 from congrArg zI (by omega)) ?_
      refine z_tabb C0 Wd (zc_T4 C0) (by omega) (by omega) (by decide) (show Value.int (zI (48 + (((x0).toNat : Nat) : Int) / 10)) = .int (zI (48 + x0 / 10)) by rw [Int.toNat_of_nonneg (by omega)]) dJ6_getChars_ba4f3_102 ?_
      refine z_bast C0 Wd zb7 zK397 zL397 (by omega) (by omega) (by decide) (by omega) dJ6_getChars_ba4f3_103 (fun H locs Wd => ?_)
      refine z_iload C0 hl 2 rfl dJ6_getChars_ba4f3_104 ?_
      refine z_if_eq C0 (tgt := 118) (zR_mk (by decide) (by decide)) dJ6_getChars_ba4f3_106 (by decide) (fun _ => ?_) (fun h => absurd h (by decide))
      refine z_iload C0 hl 0 rfl dJ6_getChars_ba4f3_118 ?_
      exact z_iret C0 Wd hret hlk (by have q0 := hx1.1; have p0 := hx1.2; exact zR_mk (by omega) (by omega)) ⟨by unfold zlen; rw [if_neg (by omega), if_pos (by omega)]; try omega, by unfold zgch; rw [if_neg (by omega), if_pos (by omega)], rfl⟩ dJ6_getChars_ba4f3_120
  · skip
    refine z_iload_n C0 hl 0 rfl dJ6_getChars_ba4f3_28 ?_
    refine z_bipush C0 dJ6_getChars_ba4f3_29 (by decide) ?_
    refine z_idivn C0 (x := x0) (y := 100) ⟨by omega, by omega⟩ ⟨by decide, by decide⟩ dJ6_getChars_ba4f3_31 ?_
    refine z_istore_n C0 hl [(3, .int (zI (-(x0 / 100)))), (0, .int (zI (-x0))), (6, .int (zI 0)), (5, .int (zI x1)), (1, .int (zI x1)), (2, .ref (ad 397))] (by decide) rfl dJ6_getChars_ba4f3_32 (fun ls hl => ?_)
    refine z_iload_n C0 hl 0 rfl dJ6_getChars_ba4f3_33 ?_
    refine z_bipush C0 dJ6_getChars_ba4f3_34 (by decide) ?_
    refine z_imul C0 dJ6_getChars_ba4f3_36 ?_
    refine z_iload_n C0 hl 1 rfl dJ6_getChars_ba4f3_37 ?_
    refine z_isub C0 dJ6_getChars_ba4f3_38 ?_
    refine z_top (show zI (((-(x0 / 100)) * 100) - (-x0)) = zI (x0 % 100) from congrArg zI (by omega)) ?_
    refine z_istore C0 hl [(4, .int (zI (x0 % 100))), (3, .int (zI (-(x0 / 100)))), (0, .int (zI (-x0))), (6, .int (zI 0)), (5, .int (zI x1)), (1, .int (zI x1)), (2, .ref (ad 397))] (by decide) rfl dJ6_getChars_ba4f3_39 (fun ls hl => ?_)
    refine z_iload_n C0 hl 1 rfl dJ6_getChars_ba4f3_41 ?_
    refine z_istore_n C0 hl [(0, .int (zI (-(x0 / 100)))), (4, .int (zI (x0 % 100))), (3, .int (zI (-(x0 / 100)))), (6, .int (zI 0)), (5, .int (zI x1)), (1, .int (zI x1)), (2, .ref (ad 397))] (by decide) rfl dJ6_getChars_ba4f3_42 (fun ls hl => ?_)
    refine z_aload_n C0 hl 6 rfl dJ6_getChars_ba4f3_43 ?_
    refine z_iinc C0 hl 4 (t := x1) (u := (x1 - 1)) rfl (by omega) [(5, .int (zI (x1 - 1))), (0, .int (zI (-(x0 / 100)))), (4, .int (zI (x0 % 100))), (3, .int (zI (-(x0 / 100)))), (6, .int (zI 0)), (1, .int (zI x1)), (2, .ref (ad 397))] (by decide) rfl dJ6_getChars_ba4f3_44 (fun ls hl => ?_)
    refine z_iload C0 hl 0 rfl dJ6_getChars_ba4f3_47 ?_
    refine z_gets C0 Wd (zc_S3 C0) zk_1138 dJ6_getChars_ba4f3_49 ?_
    refine z_iload C0 hl 2 rfl dJ6_getChars_ba4f3_52 ?_
    refine z_tabb C0 Wd (zc_T3 C0) (by omega) (by omega) (by decide) (show Value.int (zI (48 + ((((x0 % 100)).toNat : Nat) : Int) % 10)) = .int (zI (48 + (x0 % 100) % 10)) by rw [Int.toNat_of_nonneg (by omega)]) dJ6_getChars_ba4f3_54 ?_
    refine z_bast C0 Wd zb7 zK397 zL397 (by omega) (by omega) (by decide) (by omega) dJ6_getChars_ba4f3_55 (fun H locs Wd => ?_)
    refine z_aload_n C0 hl 6 rfl dJ6_getChars_ba4f3_56 ?_
    refine z_iinc C0 hl 0 (t := (x1 - 1)) (u := ((x1 - 1) - 1)) rfl (by omega) [(5, .int (zI ((x1 - 1) - 1))), (0, .int (zI (-(x0 / 100)))), (4, .int (zI (x0 % 100))), (3, .int (zI (-(x0 / 100)))), (6, .int (zI 0)), (1, .int (zI x1)), (2, .ref (ad 397))] (by decide) rfl dJ6_getChars_ba4f3_57 (fun ls hl => ?_)
    refine z_iload C0 hl 0 rfl dJ6_getChars_ba4f3_60 ?_
    refine z_gets C0 Wd (zc_S4 C0) zk_1140 dJ6_getChars_ba4f3_62 ?_
    refine z_iload C0 hl 2 rfl dJ6_getChars_ba4f3_65 ?_
    refine z_tabb C0 Wd (zc_T4 C0) (by omega) (by omega) (by decide) (show Value.int (zI (48 + ((((x0 % 100)).toNat : Nat) : Int) / 10)) = .int (zI (48 + (x0 % 100) / 10)) by rw [Int.toNat_of_nonneg (by omega)]) dJ6_getChars_ba4f3_67 ?_
    refine z_bast C0 Wd zb7 zK397 zL397 (by omega) (by omega) (by decide) (by omega) dJ6_getChars_ba4f3_68 (fun H locs Wd => ?_)
    refine z_goto C0 (tgt := 22) dJ6_getChars_ba4f3_69 (by decide) ?_
    refine z_iload_n C0 hl 1 rfl dJ6_getChars_ba4f3_22 ?_
    refine z_bipush C0 dJ6_getChars_ba4f3_23 (by decide) ?_
    refine z_icmp_gt C0 (tgt := 72) (zR_mk (by omega) (by omega)) (zR_mk (by decide) (by decide)) dJ6_getChars_ba4f3_25 (by decide) (fun c7 => ?_) (fun c7 => absurd c7 (by omega))
    refine z_aload_n C0 hl 6 rfl dJ6_getChars_ba4f3_72 ?_
    refine z_iinc C0 hl 0 (t := ((x1 - 1) - 1)) (u := (((x1 - 1) - 1) - 1)) rfl (by omega) [(5, .int (zI (((x1 - 1) - 1) - 1))), (0, .int (zI (-(x0 / 100)))), (4, .int (zI (x0 % 100))), (3, .int (zI (-(x0 / 100)))), (6, .int (zI 0)), (1, .int (zI x1)), (2, .ref (ad 397))] (by decide) rfl dJ6_getChars_ba4f3_73 (fun ls hl => ?_)
    refine z_iload C0 hl 0 rfl dJ6_getChars_ba4f3_76 ?_
    refine z_gets C0 Wd (zc_S3 C0) zk_1138 dJ6_getChars_ba4f3_78 ?_
    refine z_iload_n C0 hl 1 rfl dJ6_getChars_ba4f3_81 ?_
    refine z_ineg C0 dJ6_getChars_ba4f3_82 ?_
    refine z_top (show zI (-(-(x0 / 100))) = zI (x0 / 100) from congrArg zI (by omega)) ?_
    refine z_tabb C0 Wd (zc_T3 C0) (by omega) (by omega) (by decide) (show Value.int (zI (48 + ((((x0 / 100)).toNat : Nat) : Int) % 10)) = .int (zI (48 + (x0 / 100) % 10)) by rw [Int.toNat_of_nonneg (by omega)]) dJ6_getChars_ba4f3_83 ?_
    refine z_bast C0 Wd zb7 zK397 zL397 (by omega) (by omega) (by decide) (by omega) dJ6_getChars_ba4f3_84 (fun H locs Wd => ?_)
    refine z_iload_n C0 hl 1 rfl dJ6_getChars_ba4f3_85 ?_
    refine z_bipush C0 dJ6_getChars_ba4f3_86 (by decide) ?_
    refine z_icmp_ge C0 (tgt := 104) (zR_mk (by omega) (by omega)) (zR_mk (by decide) (by decide)) dJ6_getChars_ba4f3_88 (by decide) (fun c8 => ?_) (fun c8 => ?_)
    · skip
      refine z_iload C0 hl 4 rfl dJ6_getChars_ba4f3_104 ?_
      refine z_if_eq C0 (tgt := 118) (zR_mk (by decide) (by decide)) dJ6_getChars_ba4f3_106 (by decide) (fun _ => ?_) (fun h => absurd h (by decide))
      refine z_iload C0 hl 0 rfl dJ6_getChars_ba4f3_118 ?_
      exact z_iret C0 Wd hret hlk (by have q0 := hx1.1; have p0 := hx1.2; exact zR_mk (by omega) (by omega)) ⟨by unfold zlen; rw [if_neg (by omega), if_neg (by omega), if_pos (by omega)]; try omega, by unfold zgch; rw [if_neg (by omega), if_neg (by omega), if_pos (by omega)], rfl⟩ dJ6_getChars_ba4f3_120
    · skip
      refine z_aload_n C0 hl 6 rfl dJ6_getChars_ba4f3_91 ?_
      refine z_iinc C0 hl 0 (t := (((x1 - 1) - 1) - 1)) (u := ((((x1 - 1) - 1) - 1) - 1)) rfl (by omega) [(5, .int (zI ((((x1 - 1) - 1) - 1) - 1))), (0, .int (zI (-(x0 / 100)))), (4, .int (zI (x0 % 100))), (3, .int (zI (-(x0 / 100)))), (6, .int (zI 0)), (1, .int (zI x1)), (2, .ref (ad 397))] (by decide) rfl dJ6_getChars_ba4f3_92 (fun ls hl => ?_)
      refine z_iload C0 hl 0 rfl dJ6_getChars_ba4f3_95 ?_
      refine z_gets C0 Wd (zc_S4 C0) zk_1140 dJ6_getChars_ba4f3_97 ?_
      refine z_iload_n C0 hl 1 rfl dJ6_getChars_ba4f3_100 ?_
      refine z_ineg C0 dJ6_getChars_ba4f3_101 ?_
      refine z_top (show zI (-(-(x0 / 100))) = zI (x0 / 100) from congrArg zI (by omega)) ?_
      refine z_tabb C0 Wd (zc_T4 C0) (by omega) (by omega) (by decide) (show Value.int (zI (48 + ((((x0 / 100)).toNat : Nat) : Int) / 10)) = .int (zI (48 + (x0 / 100) / 10)) by rw [Int.toNat_of_nonneg (by omega)]) dJ6_getChars_ba4f3_102 ?_
      refine z_bast C0 Wd zb7 zK397 zL397 (by omega) (by omega) (by decide) (by omega) dJ6_getChars_ba4f3_103 (fun H locs Wd => ?_)
      refine z_iload C0 hl 4 rfl dJ6_getChars_ba4f3_104 ?_
      refine z_if_eq C0 (tgt := 118) (zR_mk (by decide) (by decide)) dJ6_getChars_ba4f3_106 (by decide) (fun _ => ?_) (fun h => absurd h (by decide))
      refine z_iload C0 hl 0 rfl dJ6_getChars_ba4f3_118 ?_
      exact z_iret C0 Wd hret hlk (by have q0 := hx1.1; have p0 := hx1.2; exact zR_mk (by omega) (by omega)) ⟨by unfold zlen; rw [if_neg (by omega), if_neg (by omega), if_neg (by omega), if_pos (by omega)]; try omega, by unfold zgch; rw [if_neg (by omega), if_neg (by omega), if_neg (by omega)], rfl⟩ dJ6_getChars_ba4f3_120
set_option maxHeartbeats 4000000 in
set_option maxRecDepth 100000 in
theorem ct_J5_append_c97b9 (l : Launch) (g : zG) (N : zNs) (zb6 : zIn N 396) (zb7 : zIn N 397) (ad : Int → Nat) (zM0 zF0 : zMem) (x0 : Int) (hx0 : zR x0) (hc : zM0 396 1 = 0) (h0 : 0 ≤ x0 ∧ x0 < 10000) (h3 : 0 ≤ zM0 396 3 ∧ zM0 396 3 + zlen x0 ≤ 16) : zMt l yJ5_append_c97b9 cJ5_append_c97b9 4 (some (.object "java/lang/AbstractStringBuilder")) 2 0 0 g N ad [.ref (ad 396), .int (zI x0)] zM0 zF0 (zPr ad (fun r M' F' => 396 = r ∧ (zapI x0 zM0) = M' ∧ zF0 = F')) := by
  refine zMt.of "java/lang/AbstractStringBuilder" rfl (by decide +kernel) (Nat.le_of_ble_eq_true rfl) (fun {p e s m args below meth c ls} C0 Wd hl hret hlk hin => ?_)
  have hl : lv_has ls 4 [(0, .ref (ad 396)), (1, .int (zI x0))] := hl
  have hzl := zlen_b x0
  refine z_aload_n C0 hl 0 rfl dJ5_append_c97b9_0 ?_
  refine zg_10_3 C0 Wd zb6 zK396 zk_332 dJ5_append_c97b9_1 ?_
  have hz1 : zR (zM0 396 3) := Wd.rm _ _
  refine z_istore_n C0 hl [(2, .int (zI (zM0 396 3))), (0, .ref (ad 396)), (1, .int (zI x0))] (by decide) rfl dJ5_append_c97b9_4 (fun ls hl => ?_)
  refine z_iload_n C0 hl 0 rfl dJ5_append_c97b9_5 ?_
  refine z_iload_n C0 hl 2 rfl dJ5_append_c97b9_6 ?_
  refine z_invSi (As := [.int (zI x0)]) (rest := [.int (zI (zM0 396 3))]) C0 Wd (ct_J6_stringSize_0f7a4 l g N zb6 zb7 ad zM0 zF0 x0 hx0 (by omega)) kv_J6_stringSize_0f7a4 zk_1132 rfl hl.1 rfl (Nat.le_of_ble_eq_true rfl) (by decide) (by decide) dJ5_append_c97b9_7 (fun r2 zMr2 zFr2 H locs hrr2 hp Wd => ?_)
  obtain ⟨rfl, rfl, rfl⟩ := hp
  refine z_iadd C0 dJ5_append_c97b9_10 ?_
  refine z_istore_n C0 hl [(3, .int (zI ((zM0 396 3) + (zlen x0)))), (2, .int (zI (zM0 396 3))), (0, .ref (ad 396)), (1, .int (zI x0))] (by decide) rfl dJ5_append_c97b9_11 (fun ls hl => ?_)
  refine z_aload_n C0 hl 2 rfl dJ5_append_c97b9_12 ?_
  refine z_iload_n C0 hl 0 rfl dJ5_append_c97b9_13 ?_
  refine z_invP (As := [.int (zI ((zM0 396 3) + (zlen x0)))]) (rest := []) C0 Wd (ct_J5_ensureCapacityInternal_d00df l g N zb6 zb7 ad zM0 zF0 ((zM0 396 3) + (zlen x0)) (by have q0 := hrr2.1; have p0 := hrr2.2; have q1 := hz1.1; have p1 := hz1.2; exact zR_mk (by omega) (by omega)) (by omega) (by omega)) kp_ensure (zrecvW C0 Wd zb6 (zE_10 zK396) rfl) zk_1020 rfl hl.1 rfl (Nat.le_of_ble_eq_true rfl) (by decide) (by decide) dJ5_append_c97b9_14 (z_kkv (fun zMr4 zFr4 H locs hp Wd => ?_))
  obtain ⟨rfl, rfl⟩ := hp
  refine z_aload_n C0 hl 2 rfl dJ5_append_c97b9_17 ?_
  refine z_invO (As := []) (rest := []) C0 Wd (ct_J5_isLatin1_aae02 l g N zb6 zb7 ad zM0 zF0 (by omega)) ks_isLatin1 (zrecvW C0 Wd zb6 (zE_10 zK396) rfl) zk_1051 rfl hl.1 rfl (Nat.le_of_ble_eq_true rfl) (by decide) (by decide) dJ5_append_c97b9_18 (z_kki (fun r6 zMr6 zFr6 H locs hrr6 hp Wd => ?_))
  obtain ⟨rfl, rfl, rfl⟩ := hp
  refine z_if_eq C0 (tgt := 37) (zR_mk (by decide) (by decide)) dJ5_append_c97b9_21 (by decide) (fun h => absurd h (by decide)) (fun _ => ?_)
  refine z_iload_n C0 hl 3 rfl dJ5_append_c97b9_24 ?_
  refine z_iload_n C0 hl 0 rfl dJ5_append_c97b9_25 ?_
  refine z_aload_n C0 hl 2 rfl dJ5_append_c97b9_26 ?_
  refine zg_10_0 C0 Wd zb6 zK396 zk_328 dJ5_append_c97b9_27 ?_
  refine z_rf (show (396 + 1) = 397 by decide) ?_
  refine z_invSi (As := [.int (zI x0), .int (zI ((zM0 396 3) + (zlen x0))), .ref (ad 397)]) (rest := []) C0 Wd (ct_J6_getChars_ba4f3 l g N zb6 zb7 ad zM0 zF0 x0 hx0 ((zM0 396 3) + (zlen x0)) (by have q0 := hrr2.1; have p0 := hrr2.2; have q1 := hz1.1; have p1 := hz1.2; exact zR_mk (by omega) (by omega)) (by omega) (by omega)) kv_J6_getChars_ba4f3 zk_1135 rfl hl.1 rfl (Nat.le_of_ble_eq_true rfl) (by decide) (by decide) dJ5_append_c97b9_30 (fun r9 zMr9 zFr9 H locs hrr9 hp Wd => ?_)
  obtain ⟨rfl, rfl, rfl⟩ := hp
  refine z_pop C0 rfl dJ5_append_c97b9_33 ?_
  refine z_goto C0 (tgt := 48) dJ5_append_c97b9_34 (by decide) ?_
  refine z_aload_n C0 hl 2 rfl dJ5_append_c97b9_48 ?_
  refine z_iload_n C0 hl 0 rfl dJ5_append_c97b9_49 ?_
  refine zp_10_3 C0 Wd zb6 zK396 (by have q0 := hrr2.1; have p0 := hrr2.2; have q1 := hz1.1; have p1 := hz1.2; exact zR_mk (by omega) (by omega)) zk_332 dJ5_append_c97b9_50 (fun H locs Wd => ?_)
  refine z_aload_n C0 hl 2 rfl dJ5_append_c97b9_53 ?_
  exact z_aret C0 Wd hret hlk ⟨rfl, rfl, rfl⟩ dJ5_append_c97b9_54
theorem kv_J4_append_bf812 : zKV yJ4_append_bf812 cJ4_append_bf812 2 (some (.object "java/lang/StringBuilder")) "java/lang/StringBuilder" 1 := ⟨zk_1128, zk_1126, zk_1127, zk_37, by decide, by decide, by decide +kernel⟩
set_option maxHeartbeats 4000000 in
set_option maxRecDepth 100000 in
theorem ct_J4_append_bf812 (l : Launch) (g : zG) (N : zNs) (zb6 : zIn N 396) (zb7 : zIn N 397) (ad : Int → Nat) (zM0 zF0 : zMem) (x0 : Int) (hx0 : zR x0) (hc : zM0 396 1 = 0) (h0 : 0 ≤ x0 ∧ x0 < 10000) (h3 : 0 ≤ zM0 396 3 ∧ zM0 396 3 + zlen x0 ≤ 16) : zMt l yJ4_append_bf812 cJ4_append_bf812 2 (some (.object "java/lang/StringBuilder")) 3 0 0 g N ad [.ref (ad 396), .int (zI x0)] zM0 zF0 (zPr ad (fun r M' F' => 396 = r ∧ (zapI x0 zM0) = M' ∧ zF0 = F')) := by
  refine zMt.of "java/lang/StringBuilder" rfl (by decide +kernel) (Nat.le_of_ble_eq_true rfl) (fun {p e s m args below meth c ls} C0 Wd hl hret hlk hin => ?_)
  have hl : lv_has ls 2 [(0, .ref (ad 396)), (1, .int (zI x0))] := hl
  have hzl := zlen_b x0
  refine z_aload_n C0 hl 0 rfl dJ4_append_bf812_0 ?_
  refine z_iload_n C0 hl 1 rfl dJ4_append_bf812_1 ?_
  refine z_invSU (As := [.int (zI x0)]) (rest := []) C0 Wd (ct_J5_append_c97b9 l g N zb6 zb7 ad zM0 zF0 x0 hx0 (by omega) (by omega) (by omega)) ku_J5_append_c97b9 (zrecvW C0 Wd zb6 (zE_10 zK396) rfl) zk_1129 rfl hl.1 rfl (Nat.le_of_ble_eq_true rfl) (by decide) (by decide) dJ4_append_bf812_2 (z_kkr (fun r1 zMr1 zFr1 H locs hp Wd => ?_))
  obtain ⟨rfl, rfl, rfl⟩ := hp
  refine z_pop C0 rfl dJ4_append_bf812_5 ?_
  refine z_aload_n C0 hl 0 rfl dJ4_append_bf812_6 ?_
  exact z_aret C0 Wd hret hlk ⟨rfl, rfl, rfl⟩ dJ4_append_bf812_7
theorem kv_J3_checkIndex_8e157 : zKS yJ3_checkIndex_8e157 cJ3_checkIndex_8e157 3 (some .int) 3 := ⟨zk_1269, zk_1268, zk_58, by decide, by decide, by decide +kernel⟩
set_option maxHeartbeats 4000000 in
set_option maxRecDepth 100000 in
theorem ct_J3_checkIndex_8e157_n (l : Launch) (g : zG) (N : zNs) (zb6 : zIn N 396) (zb7 : zIn N 397) (ad : Int → Nat) (zM0 zF0 : zMem) (x0 : Int) (hx0 : zR x0) (x1 : Int) (hx1 : zR x1) (h0 : 0 ≤ x0 ∧ x0 < x1) : zMt l yJ3_checkIndex_8e157 cJ3_checkIndex_8e157 3 (some .int) 0 0 0 g N ad [.int (zI x0), .int (zI x1), .null] zM0 zF0 (zPi (fun r M' F' => x0 = r ∧ zM0 = M' ∧ zF0 = F')) := by
  refine zMt.of "jdk/internal/util/Preconditions" rfl (by decide +kernel) (Nat.le_of_ble_eq_true rfl) (fun {p e s m args below meth c ls} C0 Wd hl hret hlk hin => ?_)
  have hl : lv_has ls 3 [(0, .int (zI x0)), (1, .int (zI x1)), (2, .null)] := hl
  refine z_iload_n C0 hl 0 rfl dJ3_checkIndex_8e157_0 ?_
  refine z_if_lt C0 (tgt := 9) hx0 dJ3_checkIndex_8e157_1 (by decide) (fun c1 => absurd c1 (by omega)) (fun c1 => ?_)
  refine z_iload_n C0 hl 0 rfl dJ3_checkIndex_8e157_4 ?_
  refine z_iload_n C0 hl 1 rfl dJ3_checkIndex_8e157_5 ?_
  refine z_icmp_lt C0 (tgt := 16) hx0 hx1 dJ3_checkIndex_8e157_6 (by decide) (fun c2 => ?_) (fun c2 => absurd c2 (by omega))
  refine z_iload_n C0 hl 0 rfl dJ3_checkIndex_8e157_16 ?_
  exact z_iret C0 Wd hret hlk hx0 ⟨by first | rfl | (simp only [zb]; first | rfl | (split <;> omega) | omega) | (simp [zb, *]; done) | omega, by first | rfl | (simp [zb, *]; done), rfl⟩ dJ3_checkIndex_8e157_17
set_option maxHeartbeats 4000000 in
set_option maxRecDepth 100000 in
theorem ct_J3_checkIndex_8e157_r (l : Launch) (g : zG) (N : zNs) (zb6 : zIn N 396) (zb7 : zIn N 397) (ad : Int → Nat) (zM0 zF0 : zMem) (t9 : Nat) (x0 : Int) (hx0 : zR x0) (x1 : Int) (hx1 : zR x1) (h0 : 0 ≤ x0 ∧ x0 < x1) : zMt l yJ3_checkIndex_8e157 cJ3_checkIndex_8e157 3 (some .int) 0 0 0 g N ad [.int (zI x0), .int (zI x1), .ref t9] zM0 zF0 (zPi (fun r M' F' => x0 = r ∧ zM0 = M' ∧ zF0 = F')) := by
  refine zMt.of "jdk/internal/util/Preconditions" rfl (by decide +kernel) (Nat.le_of_ble_eq_true rfl) (fun {p e s m args below meth c ls} C0 Wd hl hret hlk hin => ?_)
  have hl : lv_has ls 3 [(0, .int (zI x0)), (1, .int (zI x1)), (2, .ref t9)] := hl
  refine z_iload_n C0 hl 0 rfl dJ3_checkIndex_8e157_0 ?_
  refine z_if_lt C0 (tgt := 9) hx0 dJ3_checkIndex_8e157_1 (by decide) (fun c1 => absurd c1 (by omega)) (fun c1 => ?_)
  refine z_iload_n C0 hl 0 rfl dJ3_checkIndex_8e157_4 ?_
  refine z_iload_n C0 hl 1 rfl dJ3_checkIndex_8e157_5 ?_
  refine z_icmp_lt C0 (tgt := 16) hx0 hx1 dJ3_checkIndex_8e157_6 (by decide) (fun c2 => ?_) (fun c2 => absurd c2 (by omega))
  refine z_iload_n C0 hl 0 rfl dJ3_checkIndex_8e157_16 ?_
  exact z_iret C0 Wd hret hlk hx0 ⟨by first | rfl | (simp only [zb]; first | rfl | (split <;> omega) | omega) | (simp [zb, *]; done) | omega, by first | rfl | (simp [zb, *]; done), rfl⟩ dJ3_checkIndex_8e157_17
theorem kv_J0_checkIndex_df160 : zKS yJ0_checkIndex_df160 cJ0_checkIndex_df160 2 none 2 := ⟨zk_1266, zk_1265, zk_38, by decide, by decide, by decide +kernel⟩
set_option maxHeartbeats 4000000 in
set_option maxRecDepth 100000 in
theorem ct_J0_checkIndex_df160 (l : Launch) (g : zG) (N : zNs) (zb6 : zIn N 396) (zb7 : zIn N 397) (ad : Int → Nat) (zM0 zF0 : zMem) (x0 : Int) (hx0 : zR x0) (x1 : Int) (hx1 : zR x1) (h0 : 0 ≤ x0 ∧ x0 < x1) : zMt l yJ0_checkIndex_df160 cJ0_checkIndex_df160 2 none 1 0 0 g N ad [.int (zI x0), .int (zI x1)] zM0 zF0 (zPv (fun M' F' => zM0 = M' ∧ zF0 = F')) := by
  refine zMt.of "java/lang/String" rfl (by decide +kernel) (Nat.le_of_ble_eq_true rfl) (fun {p e s m args below meth c ls} C0 Wd hl hret hlk hin => ?_)
  have hl : lv_has ls 2 [(0, .int (zI x0)), (1, .int (zI x1))] := hl
  refine z_iload_n C0 hl 0 rfl dJ0_checkIndex_df160_0 ?_
  refine z_iload_n C0 hl 1 rfl dJ0_checkIndex_df160_1 ?_
  rcases zc_fm C0 with hZ | ⟨t9, hZ⟩
  · skip
    refine z_gets C0 Wd hZ zk_1068 dJ0_checkIndex_df160_2 ?_
    refine z_invSi (As := [.int (zI x0), .int (zI x1), .null]) (rest := []) C0 Wd (ct_J3_checkIndex_8e157_n l g N zb6 zb7 ad zM0 zF0 x0 hx0 x1 hx1 (by omega)) kv_J3_checkIndex_8e157 zk_1267 rfl hl.1 rfl (Nat.le_of_ble_eq_true rfl) (by decide) (by decide) dJ0_checkIndex_df160_5 (fun r1 zMr1 zFr1 H locs hrr1 hp Wd => ?_)
    obtain ⟨rfl, rfl, rfl⟩ := hp
    refine z_pop C0 rfl dJ0_checkIndex_df160_8 ?_
    exact z_vret C0 Wd hret hlk ⟨by first | rfl | (simp [zb, *]; done), rfl⟩ dJ0_checkIndex_df160_9
  · skip
    refine z_gets C0 Wd hZ zk_1068 dJ0_checkIndex_df160_2 ?_
    refine z_invSi (As := [.int (zI x0), .int (zI x1), .ref t9]) (rest := []) C0 Wd (ct_J3_checkIndex_8e157_r l g N zb6 zb7 ad zM0 zF0 t9 x0 hx0 x1 hx1 (by omega)) kv_J3_checkIndex_8e157 zk_1267 rfl hl.1 rfl (Nat.le_of_ble_eq_true rfl) (by decide) (by decide) dJ0_checkIndex_df160_5 (fun r3 zMr3 zFr3 H locs hrr3 hp Wd => ?_)
    obtain ⟨rfl, rfl, rfl⟩ := hp
    refine z_pop C0 rfl dJ0_checkIndex_df160_8 ?_
    exact z_vret C0 Wd hret hlk ⟨by first | rfl | (simp [zb, *]; done), rfl⟩ dJ0_checkIndex_df160_9
set_option maxHeartbeats 4000000 in
set_option maxRecDepth 100000 in
theorem ct_J5_charAt_5068e (l : Launch) (g : zG) (N : zNs) (zb6 : zIn N 396) (zb7 : zIn N 397) (ad : Int → Nat) (zM0 zF0 : zMem) (x0 : Int) (hx0 : zR x0) (hc : zM0 396 1 = 0) (h0 : 0 ≤ x0 ∧ x0 < zM0 396 3) (h3 : zM0 396 3 ≤ 16) (hv : 0 ≤ zM0 397 x0 ∧ zM0 397 x0 < 128) : zMt l yJ5_charAt_5068e cJ5_charAt_5068e 5 (some .char) 2 0 0 g N ad [.ref (ad 396), .int (zI x0)] zM0 zF0 (zPi (fun r M' F' => (zM0 397 x0) = r ∧ zM0 = M' ∧ zF0 = F')) := by
  refine zMt.of "java/lang/AbstractStringBuilder" rfl (by decide +kernel) (Nat.le_of_ble_eq_true rfl) (fun {p e s m args below meth c ls} C0 Wd hl hret hlk hin => ?_)
  have hl : lv_has ls 5 [(0, .ref (ad 396)), (1, .int (zI x0))] := hl
  refine z_aload_n C0 hl 0 rfl dJ5_charAt_5068e_0 ?_
  refine zg_10_1 C0 Wd zb6 zK396 zk_329 dJ5_charAt_5068e_1 ?_
  obtain ⟨he2, hz1⟩ : (zM0 396 1) = 0 ∧ zR 0 := (fun q => ⟨q, q ▸ Wd.rm _ _⟩) hc
  refine z_top (congrArg zI he2) ?_
  clear he2
  refine z_istore_n C0 hl [(2, .int (zI 0)), (0, .ref (ad 396)), (1, .int (zI x0))] (by decide) rfl dJ5_charAt_5068e_4 (fun ls hl => ?_)
  refine z_aload_n C0 hl 1 rfl dJ5_charAt_5068e_5 ?_
  refine zg_10_0 C0 Wd zb6 zK396 zk_328 dJ5_charAt_5068e_6 ?_
  refine z_rf (show (396 + 1) = 397 by decide) ?_
  refine z_astore_n C0 hl [(3, .ref (ad 397)), (2, .int (zI 0)), (0, .ref (ad 396)), (1, .int (zI x0))] (by decide) rfl dJ5_charAt_5068e_9 (fun ls hl => ?_)
  refine z_aload_n C0 hl 2 rfl dJ5_charAt_5068e_10 ?_
  refine zg_10_3 C0 Wd zb6 zK396 zk_332 dJ5_charAt_5068e_11 ?_
  have hz3 : zR (zM0 396 3) := Wd.rm _ _
  refine z_aload_n C0 hl 0 rfl dJ5_charAt_5068e_14 ?_
  refine z_blen C0 Wd zb7 zK397 zL397 dJ5_charAt_5068e_15 ?_
  refine z_top (show zI ((16 : Nat) : Int) = zI 16 from rfl) ?_
  refine z_iload_n C0 hl 1 rfl dJ5_charAt_5068e_16 ?_
  refine z_ishr C0 (v := 16) (by decide) dJ5_charAt_5068e_17 ?_
  refine z_invSi (As := [.int (zI (zM0 396 3)), .int (zI 16)]) (rest := []) C0 Wd (ct_J9_min_7cf53 l g N zb6 zb7 ad zM0 zF0 (zM0 396 3) hz3 16 (zR_mk (by decide) (by decide))) kv_J9_min_7cf53 zk_1286 rfl hl.1 rfl (Nat.le_of_ble_eq_true rfl) (by decide) (by decide) dJ5_charAt_5068e_18 (fun r4 zMr4 zFr4 H locs hrr4 hp Wd => ?_)
  obtain ⟨rfl, rfl, rfl⟩ := hp
  refine z_top (show zI (if (zM0 396 3) ≤ 16 then (zM0 396 3) else 16) = zI (zM0 396 3) from congrArg zI (if_pos (by omega))) ?_
  refine z_istore C0 hl [(4, .int (zI (zM0 396 3))), (3, .ref (ad 397)), (2, .int (zI 0)), (0, .ref (ad 396)), (1, .int (zI x0))] (by decide) rfl dJ5_charAt_5068e_21 (fun ls hl => ?_)
  refine z_iload_n C0 hl 4 rfl dJ5_charAt_5068e_23 ?_
  refine z_iload C0 hl 0 rfl dJ5_charAt_5068e_24 ?_
  refine z_invSv (As := [.int (zI x0), .int (zI (zM0 396 3))]) (rest := []) C0 Wd (ct_J0_checkIndex_df160 l g N zb6 zb7 ad zM0 zF0 x0 hx0 (zM0 396 3) (zR_mk (by omega) (by omega)) (by omega)) kv_J0_checkIndex_df160 zk_1287 rfl hl.1 rfl (Nat.le_of_ble_eq_true rfl) (by decide) (by decide) dJ5_charAt_5068e_26 (fun zMr6 zFr6 H locs hp Wd => ?_)
  obtain ⟨rfl, rfl⟩ := hp
  refine z_iload_n C0 hl 2 rfl dJ5_charAt_5068e_29 ?_
  refine z_if_ne C0 (tgt := 42) hz1 dJ5_charAt_5068e_30 (by decide) (fun h => absurd h (by decide)) (fun _ => ?_)
  refine z_aload_n C0 hl 1 rfl dJ5_charAt_5068e_33 ?_
  refine z_iload_n C0 hl 4 rfl dJ5_charAt_5068e_34 ?_
  refine z_bald C0 Wd zb7 zK397 zL397 (by omega) (by omega) (by decide) dJ5_charAt_5068e_35 ?_
  have hz9 : zR (zM0 397 x0) := Wd.rm _ _
  refine z_sipush C0 dJ5_charAt_5068e_36 (by decide) ?_
  refine z_iand C0 (v := (zM0 397 x0)) (zI_and255 (by omega) (by omega)) dJ5_charAt_5068e_39 ?_
  refine z_i2c C0 (v := (zM0 397 x0)) (zI_char (by omega) (by omega)) dJ5_charAt_5068e_40 ?_
  exact z_cret C0 Wd hret hlk (by omega) (by omega) ⟨by first | rfl | (simp only [zb]; first | rfl | (split <;> omega) | omega) | (simp [zb, *]; done) | omega, by first | rfl | (simp [zb, *]; done), rfl⟩ dJ5_charAt_5068e_41
theorem kv_J4_charAt_5068e : zKV yJ4_charAt_5068e cJ4_charAt_5068e 2 (some .char) "java/lang/StringBuilder" 1 := ⟨zk_1282, zk_1280, zk_1281, zk_37, by decide, by decide, by decide +kernel⟩
set_option maxHeartbeats 4000000 in
set_option maxRecDepth 100000 in
theorem ct_J4_charAt_5068e (l : Launch) (g : zG) (N : zNs) (zb6 : zIn N 396) (zb7 : zIn N 397) (ad : Int → Nat) (zM0 zF0 : zMem) (x0 : Int) (hx0 : zR x0) (hc : zM0 396 1 = 0) (h0 : 0 ≤ x0 ∧ x0 < zM0 396 3) (h3 : zM0 396 3 ≤ 16) (hv : 0 ≤ zM0 397 x0 ∧ zM0 397 x0 < 128) : zMt l yJ4_charAt_5068e cJ4_charAt_5068e 2 (some .char) 3 0 0 g N ad [.ref (ad 396), .int (zI x0)] zM0 zF0 (zPi (fun r M' F' => (zM0 397 x0) = r ∧ zM0 = M' ∧ zF0 = F')) := by
  refine zMt.of "java/lang/StringBuilder" rfl (by decide +kernel) (Nat.le_of_ble_eq_true rfl) (fun {p e s m args below meth c ls} C0 Wd hl hret hlk hin => ?_)
  have hl : lv_has ls 2 [(0, .ref (ad 396)), (1, .int (zI x0))] := hl
  refine z_aload_n C0 hl 0 rfl dJ4_charAt_5068e_0 ?_
  refine z_iload_n C0 hl 1 rfl dJ4_charAt_5068e_1 ?_
  refine z_invSU (As := [.int (zI x0)]) (rest := []) C0 Wd (ct_J5_charAt_5068e l g N zb6 zb7 ad zM0 zF0 x0 hx0 (by omega) (by omega) (by omega) (by omega)) ku_J5_charAt_5068e (zrecvW C0 Wd zb6 (zE_10 zK396) rfl) zk_1283 rfl hl.1 rfl (Nat.le_of_ble_eq_true rfl) (by decide) (by decide) dJ4_charAt_5068e_2 (z_kki (fun r1 zMr1 zFr1 H locs hrr1 hp Wd => ?_))
  obtain ⟨rfl, rfl, rfl⟩ := hp
  exact z_cret C0 Wd hret hlk (by omega) (by omega) ⟨by first | rfl | (simp only [zb]; first | rfl | (split <;> omega) | omega) | (simp [zb, *]; done) | omega, by first | rfl | (simp [zb, *]; done), rfl⟩ dJ4_charAt_5068e_5
