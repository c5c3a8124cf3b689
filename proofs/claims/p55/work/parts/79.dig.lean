/-! digits -/
/-- how many digits a number below 100000 has -/
def zlen (x : Int) : Int := if x < 10 then 1 else if x < 100 then 2 else if x < 1000 then 3 else if x < 10000 then 4 else 5
theorem z_ineg {g : zG} {A : Nat → Prop} {p : Program} {l : Launch} {e : Env} {R : Room} {s : State} {m : MethodId} {args : Array Value} {below : List Frame} {meth : Method} {c : Code} {H : Heap} {locs : List Loc} {cells slots : Nat} {Q : State → Prop} {cc : ByteArray} {nL : Nat} {own : String} {pc : Nat} {ls : Array Slot} {rest : List Value} (C0 : zC g A p s m args c cc nL own) {a : Int} (hdg : decode cc pc = .ok (.ineg, 1)) (k : W p l e R s m args below meth c H locs cells slots Q (F0 m (pc + 1) ls (.int (zI (-a)) :: rest))) : W p l e R s m args below meth c H locs cells slots Q (F0 m pc ls (.int (zI a) :: rest)) := lv_ineg C0.1.1 C0.1.2.1 hdg (by rw [show -zI a = zI (-a) from (Int32.ofInt_neg a).symm]; exact k)

theorem kv_J6_stringSize_0f7a4 : zKS yJ6_stringSize_0f7a4 cJ6_stringSize_0f7a4 4 (some .int) 1 := ⟨zk_1134, zk_1133, zk_53, by decide, by decide, by decide +kernel⟩
set_option maxHeartbeats 4000000 in
set_option maxRecDepth 100000 in
theorem ct_J6_stringSize_0f7a4 (l : Launch) (g : zG) (N : zNs) (zb6 : zIn N 396) (zb7 : zIn N 397) (ad : Int → Nat) (zM0 zF0 : zMem) (x0 : Int) (hx0 : zR x0) (h0 : 0 ≤ x0 ∧ x0 < 100000) : zMt l yJ6_stringSize_0f7a4 cJ6_stringSize_0f7a4 4 (some .int) 0 0 0 g N ad [.int (zI x0)] zM0 zF0 (zPi (fun r M' F' => (zlen x0) = r ∧ zM0 = M' ∧ zF0 = F')) := by
  refine zMt.of "java/lang/Integer" rfl (by decide +kernel) (Nat.le_of_ble_eq_true rfl) (fun {p e s m args below meth c ls} C0 Wd hl hret hlk hin => ?_)
  have hl : lv_has ls 4 [(0, .int (zI x0))] := hl
  refine z_iconst C0 dJ6_stringSize_0f7a4_0 ?_
  refine z_istore_n C0 hl [(1, .int (zI 1)), (0, .int (zI x0))] (by decide) rfl dJ6_stringSize_0f7a4_1 (fun ls hl => ?_)
  refine z_iload_n C0 hl 1 rfl dJ6_stringSize_0f7a4_2 ?_
  refine z_if_lt C0 (tgt := 11) hx0 dJ6_stringSize_0f7a4_3 (by decide) (fun c1 => absurd c1 (by omega)) (fun c1 => ?_)
  refine z_iconst C0 dJ6_stringSize_0f7a4_6 ?_
  refine z_istore_n C0 hl [(1, .int (zI 0)), (0, .int (zI x0))] (by decide) rfl dJ6_stringSize_0f7a4_7 (fun ls hl => ?_)
  refine z_iload_n C0 hl 1 rfl dJ6_stringSize_0f7a4_8 ?_
  refine z_ineg C0 dJ6_stringSize_0f7a4_9 ?_
  refine z_istore_n C0 hl [(0, .int (zI (-x0))), (1, .int (zI 0))] (by decide) rfl dJ6_stringSize_0f7a4_10 (fun ls hl => ?_)
  refine z_bipush C0 dJ6_stringSize_0f7a4_11 (by decide) ?_
  refine z_istore_n C0 hl [(2, .int (zI (-10))), (0, .int (zI (-x0))), (1, .int (zI 0))] (by decide) rfl dJ6_stringSize_0f7a4_13 (fun ls hl => ?_)
  refine z_iconst C0 dJ6_stringSize_0f7a4_14 ?_
  refine z_istore_n C0 hl [(3, .int (zI 1)), (2, .int (zI (-10))), (0, .int (zI (-x0))), (1, .int (zI 0))] (by decide) rfl dJ6_stringSize_0f7a4_15 (fun ls hl => ?_)
  refine z_iload_n C0 hl 0 rfl dJ6_stringSize_0f7a4_16 ?_
  refine z_bipush C0 dJ6_stringSize_0f7a4_17 (by decide) ?_
  refine z_icmp_ge C0 (tgt := 42) (zR_mk (by decide) (by decide)) (zR_mk (by decide) (by decide)) dJ6_stringSize_0f7a4_19 (by decide) (fun h => absurd h (by decide)) (fun _ => ?_)
  refine z_iload_n C0 hl 2 rfl dJ6_stringSize_0f7a4_22 ?_
  refine z_iload_n C0 hl 1 rfl dJ6_stringSize_0f7a4_23 ?_
  refine z_icmp_le C0 (tgt := 31) (zR_mk (by omega) (by omega)) (zR_mk (by decide) (by decide)) dJ6_stringSize_0f7a4_24 (by decide) (fun c3 => ?_) (fun c3 => ?_)
  · skip
    refine z_bipush C0 dJ6_stringSize_0f7a4_31 (by decide) ?_
    refine z_iload_n C0 hl 1 rfl dJ6_stringSize_0f7a4_33 ?_
    refine z_imul C0 dJ6_stringSize_0f7a4_34 ?_
    refine z_top (show zI (10 * (-10)) = zI (-100) from rfl) ?_
    refine z_istore_n C0 hl [(2, .int (zI (-100))), (3, .int (zI 1)), (0, .int (zI (-x0))), (1, .int (zI 0))] (by decide) rfl dJ6_stringSize_0f7a4_35 (fun ls hl => ?_)
    refine z_iinc C0 hl 1 (t := 1) (u := 2) rfl (by omega) [(3, .int (zI 2)), (2, .int (zI (-100))), (0, .int (zI (-x0))), (1, .int (zI 0))] (by decide) rfl dJ6_stringSize_0f7a4_36 (fun ls hl => ?_)
    refine z_goto C0 (tgt := 16) dJ6_stringSize_0f7a4_39 (by decide) ?_
    refine z_iload_n C0 hl 0 rfl dJ6_stringSize_0f7a4_16 ?_
    refine z_bipush C0 dJ6_stringSize_0f7a4_17 (by decide) ?_
    refine z_icmp_ge C0 (tgt := 42) (zR_mk (by decide) (by decide)) (zR_mk (by decide) (by decide)) dJ6_stringSize_0f7a4_19 (by decide) (fun h => absurd h (by decide)) (fun _ => ?_)
    refine z_iload_n C0 hl 2 rfl dJ6_stringSize_0f7a4_22 ?_
    refine z_iload_n C0 hl 1 rfl dJ6_stringSize_0f7a4_23 ?_
    refine z_icmp_le C0 (tgt := 31) (zR_mk (by omega) (by omega)) (zR_mk (by decide) (by decide)) dJ6_stringSize_0f7a4_24 (by decide) (fun c5 => ?_) (fun c5 => ?_)
    · skip
      refine z_bipush C0 dJ6_stringSize_0f7a4_31 (by decide) ?_
      refine z_iload_n C0 hl 1 rfl dJ6_stringSize_0f7a4_33 ?_
      refine z_imul C0 dJ6_stringSize_0f7a4_34 ?_
      refine z_top (show zI (10 * (-100)) = zI (-1000) from rfl) ?_
      refine z_istore_n C0 hl [(2, .int (zI (-1000))), (3, .int (zI 2)), (0, .int (zI (-x0))), (1, .int (zI 0))] (by decide) rfl dJ6_stringSize_0f7a4_35 (fun ls hl => ?_)
      refine z_iinc C0 hl 1 (t := 2) (u := 3) rfl (by omega) [(3, .int (zI 3)), (2, .int (zI (-1000))), (0, .int (zI (-x0))), (1, .int (zI 0))] (by decide) rfl dJ6_stringSize_0f7a4_36 (fun ls hl => ?_)
      refine z_goto C0 (tgt := 16) dJ6_stringSize_0f7a4_39 (by decide) ?_
      refine z_iload_n C0 hl 0 rfl dJ6_stringSize_0f7a4_16 ?_
      refine z_bipush C0 dJ6_stringSize_0f7a4_17 (by decide) ?_
      refine z_icmp_ge C0 (tgt := 42) (zR_mk (by decide) (by decide)) (zR_mk (by decide) (by decide)) dJ6_stringSize_0f7a4_19 (by decide) (fun h => absurd h (by decide)) (fun _ => ?_)
      refine z_iload_n C0 hl 2 rfl dJ6_stringSize_0f7a4_22 ?_
      refine z_iload_n C0 hl 1 rfl dJ6_stringSize_0f7a4_23 ?_
      refine z_icmp_le C0 (tgt := 31) (zR_mk (by omega) (by omega)) (zR_mk (by decide) (by decide)) dJ6_stringSize_0f7a4_24 (by decide) (fun c7 => ?_) (fun c7 => ?_)
      · skip
        refine z_bipush C0 dJ6_stringSize_0f7a4_31 (by decide) ?_
        refine z_iload_n C0 hl 1 rfl dJ6_stringSize_0f7a4_33 ?_
        refine z_imul C0 dJ6_stringSize_0f7a4_34 ?_
        refine z_top (show zI (10 * (-1000)) = zI (-10000) from rfl) ?_
        refine z_istore_n C0 hl [(2, .int (zI (-10000))), (3, .int (zI 3)), (0, .int (zI (-x0))), (1, .int (zI 0))] (by decide) rfl dJ6_stringSize_0f7a4_35 (fun ls hl => ?_)
        refine z_iinc C0 hl 1 (t := 3) (u := 4) rfl (by omega) [(3, .int (zI 4)), (2, .int (zI (-10000))), (0, .int (zI (-x0))), (1, .int (zI 0))] (by decide) rfl dJ6_stringSize_0f7a4_36 (fun ls hl => ?_)
        refine z_goto C0 (tgt := 16) dJ6_stringSize_0f7a4_39 (by decide) ?_
        refine z_iload_n C0 hl 0 rfl dJ6_stringSize_0f7a4_16 ?_
        refine z_bipush C0 dJ6_stringSize_0f7a4_17 (by decide) ?_
        refine z_icmp_ge C0 (tgt := 42) (zR_mk (by decide) (by decide)) (zR_mk (by decide) (by decide)) dJ6_stringSize_0f7a4_19 (by decide) (fun h => absurd h (by decide)) (fun _ => ?_)
        refine z_iload_n C0 hl 2 rfl dJ6_stringSize_0f7a4_22 ?_
        refine z_iload_n C0 hl 1 rfl dJ6_stringSize_0f7a4_23 ?_
        refine z_icmp_le C0 (tgt := 31) (zR_mk (by omega) (by omega)) (zR_mk (by decide) (by decide)) dJ6_stringSize_0f7a4_24 (by decide) (fun c9 => ?_) (fun c9 => ?_)
        · skip
          refine z_bipush C0 dJ6_stringSize_0f7a4_31 (by decide) ?_
          refine z_iload_n C0 hl 1 rfl dJ6_stringSize_0f7a4_33 ?_
          refine z_imul C0 dJ6_stringSize_0f7a4_34 ?_
          refine z_top (show zI (10 * (-10000)) = zI (-100000) from rfl) ?_
          refine z_istore_n C0 hl [(2, .int (zI (-100000))), (3, .int (zI 4)), (0, .int (zI (-x0))), (1, .int (zI 0))] (by decide) rfl dJ6_stringSize_0f7a4_35 (fun ls hl => ?_)
          refine z_iinc C0 hl 1 (t := 4) (u := 5) rfl (by omega) [(3, .int (zI 5)), (2, .int (zI (-100000))), (0, .int (zI (-x0))), (1, .int (zI 0))] (by decide) rfl dJ6_stringSize_0f7a4_36 (fun ls hl => ?_)
          refine z_goto C0 (tgt := 16) dJ6_stringSize_0f7a4_39 (by decide) ?_
          refine z_iload_n C0 hl 0 rfl dJ6_stringSize_0f7a4_16 ?_
          refine z_bipush C0 dJ6_stringSize_0f7a4_17 (by decide) ?_
          refine z_icmp_ge C0 (tgt := 42) (zR_mk (by decide) (by decide)) (zR_mk (by decide) (by decide)) dJ6_stringSize_0f7a4_19 (by decide) (fun h => absurd h (by decide)) (fun _ => ?_)
          refine z_iload_n C0 hl 2 rfl dJ6_stringSize_0f7a4_22 ?_
          refine z_iload_n C0 hl 1 rfl dJ6_stringSize_0f7a4_23 ?_
          refine z_icmp_le C0 (tgt := 31) (zR_mk (by omega) (by omega)) (zR_mk (by decide) (by decide)) dJ6_stringSize_0f7a4_24 (by decide) (fun c11 => absurd c11 (by omega)) (fun c11 => ?_)
          refine z_iload_n C0 hl 0 rfl dJ6_stringSize_0f7a4_27 ?_
          refine z_iload_n C0 hl 3 rfl dJ6_stringSize_0f7a4_28 ?_
          refine z_iadd C0 dJ6_stringSize_0f7a4_29 ?_
          exact z_iret C0 Wd hret hlk (zR_mk (by omega) (by omega)) ⟨by unfold zlen; rw [if_neg (by omega), if_neg (by omega), if_neg (by omega), if_neg (by omega)]; rfl, rfl, rfl⟩ dJ6_stringSize_0f7a4_30
        · skip
          refine z_iload_n C0 hl 0 rfl dJ6_stringSize_0f7a4_27 ?_
          refine z_iload_n C0 hl 3 rfl dJ6_stringSize_0f7a4_28 ?_
          refine z_iadd C0 dJ6_stringSize_0f7a4_29 ?_
          exact z_iret C0 Wd hret hlk (zR_mk (by omega) (by omega)) ⟨by unfold zlen; rw [if_neg (by omega), if_neg (by omega), if_neg (by omega), if_pos (by omega)]; rfl, rfl, rfl⟩ dJ6_stringSize_0f7a4_30
      · skip
        refine z_iload_n C0 hl 0 rfl dJ6_stringSize_0f7a4_27 ?_
        refine z_iload_n C0 hl 3 rfl dJ6_stringSize_0f7a4_28 ?_
        refine z_iadd C0 dJ6_stringSize_0f7a4_29 ?_
        exact z_iret C0 Wd hret hlk (zR_mk (by omega) (by omega)) ⟨by unfold zlen; rw [if_neg (by omega), if_neg (by omega), if_pos (by omega)]; rfl, rfl, rfl⟩ dJ6_stringSize_0f7a4_30
    · skip
      refine z_iload_n C0 hl 0 rfl dJ6_stringSize_0f7a4_27 ?_
      refine z_iload_n C0 hl 3 rfl dJ6_stringSize_0f7a4_28 ?_
      refine z_iadd C0 dJ6_stringSize_0f7a4_29 ?_
      exact z_iret C0 Wd hret hlk (zR_mk (by omega) (by omega)) ⟨by unfold zlen; rw [if_neg (by omega), if_pos (by omega)]; rfl, rfl, rfl⟩ dJ6_stringSize_0f7a4_30
  · skip
    refine z_iload_n C0 hl 0 rfl dJ6_stringSize_0f7a4_27 ?_
    refine z_iload_n C0 hl 3 rfl dJ6_stringSize_0f7a4_28 ?_
    refine z_iadd C0 dJ6_stringSize_0f7a4_29 ?_
    exact z_iret C0 Wd hret hlk (zR_mk (by omega) (by omega)) ⟨by unfold zlen; rw [if_pos (by omega)]; rfl, rfl, rfl⟩ dJ6_stringSize_0f7a4_30
