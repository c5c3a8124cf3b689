/-! the law from its entry -/
set_option maxHeartbeats 8000000 in
set_option maxRecDepth 1000000 in
theorem whole_start {p : Program} {e : Env} {s : State} {m : MethodId} {below : List Frame} {meth : Method} {c : Code} (l : Launch) (hflags : l.flags = flags0) {b L : Nat} {xs : Nat → Int32} (hL : L ≤ 260) (C0 : lw_At p s m meth c b L xs) : W p l e room_1 s m #[Value.ref b] below meth c s.heap [] 0 0 (lw_Z below #[Value.ref b] s) (entryFrame m ([Value.ref b] : List Value).toArray 2) := by
  obtain ⟨hx, hb, hr, hml, hown, hts, hX, hbl, hlocks, hgv⟩ := C0
  have hfl : ∀ c ∈ zFl, c.before #[Value.ref b] s = true := flat_of_before _ hgv
  have hAlt : ∀ a : Nat, a < s.heap.size → ¬ (fun q => s.heap.size ≤ q) a := fun a h => Nat.not_le.mpr h
  obtain ⟨d1, d2, d3, hK⟩ := zK_start (A := fun _ => True) hts
  have hst : l.stackTraces = false := by
    unfold Launch.stackTraces
    rw [hflags]
    decide +kernel
  obtain ⟨g, hg⟩ : ∃ g : zG, g = (d1, d2, d3, adr #[Value.ref b] s) := ⟨_, rfl⟩
  have C0 : zC g (fun q => s.heap.size ≤ q) p s m #[Value.ref b] c cL_law 2 "DrumWarrenLaw" := by
    rw [hg]
    exact ⟨⟨hx, hb, hml, hown, fun w hw => hts w (List.mem_filter.mp hw).1⟩, hK _, ⟨zSa_start hts hfl hAlt d1 d2 d3, zSb_start (A := fun _ => True) hts hfl d1 d2 d3⟩, fun q h => h⟩
  clear hg hK
  have hl := lv_entry ([Value.ref b]) (n := 2) (Nat.le_of_ble_eq_true rfl)
  rw [lg_entry_eq]
  generalize (lg_sl ([Value.ref b]) ++ List.replicate (2 - (lg_sl ([Value.ref b])).length) Slot.unset).toArray = ls at hl ⊢
  have hl : lv_has ls 2 [(0, .ref b)] := hl
  have Wd : rW g (fun q => s.heap.size ≤ q) s.heap ([] ++ []) s.heap [] := ⟨fun k q hq => (by simp at hq), ⟨fun i j x y hx => (by simp at hx), fun k q hq => (by simp at hq)⟩, va_S.rf⟩
  have hS0 : zSc b L xs (fun q => s.heap.size ≤ q) s s.heap := ⟨hX, hbl, Nat.not_le.mpr hbl⟩
  have hS1 : zSc b L xs (va_A [] s.heap.size) s s.heap := ⟨hX, hbl, fun z => by
    rcases z with ⟨k, e9, z⟩ | z
    · exact absurd z (by simp)
    · omega⟩
  have hL9 : L ≤ 2048 := by omega
  refine z_aload_n C0 hl 0 rfl dL_law_0 ?_
  refine x_invS (wr := []) (wc := []) (As := [.ref b]) (rest := []) C0 Wd (lw_drawn l g b L xs hL9 hst) ks_L_drawn zSc_k hS1 zk_62 rfl hl.1 rfl (Nat.le_of_ble_eq_true rfl) ⟨by decide, by decide⟩ ⟨by decide, by decide⟩ dL_law_1 (fun v w1 H locs hp Wd => ?_)
  obtain ⟨ad, M, F, t, many, V, U, rfl, rfl, hR, hL0, ht, h2, h6, h3⟩ := hp
  have Wd : zW g (fun q => s.heap.size ≤ q) s.heap (0, 398, []) ad M F H locs := r_zW Wd hR
  refine z_astore_n C0 hl [(1, .ref (ad 0)), (0, .ref b)] (by decide) rfl dL_law_4 (fun ls hl => ?_)
  refine z_aload_n C0 hl 0 rfl dL_law_5 ?_
  refine lv_ifnull C0.1.1 C0.1.2.1 dL_law_6 ?_
  refine z_aload_n C0 hl 0 rfl dL_law_9 ?_
  refine z_invSi (As := [.ref (ad 0)]) (rest := []) C0 Wd (lw_ways l g [] ad M F hL0 ⟨h2, h6⟩ hst) ks_L_ways zk_770 rfl hl.1 rfl (Nat.le_of_ble_eq_true rfl) ⟨by decide, by decide⟩ ⟨by decide, by decide⟩ dL_law_10 (fun k0 M0 F0 H locs hr0 hp0 Wd => ?_)
  obtain ⟨rfl, hL1⟩ := hp0
  refine z_if_eq C0 (tgt := 49) (zR_mk (by decide) (by decide)) dL_law_13 (by decide) (fun h => absurd h (by decide)) (fun _ => ?_)
  refine z_aload_n C0 hl 0 rfl dL_law_16 ?_
  refine z_invSi (As := [.ref (ad 0)]) (rest := []) C0 Wd (lw_hares l g [] ad M0 F0 hL1 (by omega) hst) ks_L_hares zk_864 rfl hl.1 rfl (Nat.le_of_ble_eq_true rfl) ⟨by decide, by decide⟩ ⟨by decide, by decide⟩ dL_law_17 (fun k1 M1 F1 H locs hr1 hp1 Wd => ?_)
  obtain ⟨rfl, hL2⟩ := hp1
  refine z_if_eq C0 (tgt := 49) (zR_mk (by decide) (by decide)) dL_law_20 (by decide) (fun h => absurd h (by decide)) (fun _ => ?_)
  refine z_aload_n C0 hl 0 rfl dL_law_23 ?_
  refine z_invSi (As := [.ref (ad 0)]) (rest := []) C0 Wd (lw_messages l g [] ad M1 F1 hL2 (by omega) h3 hst) ks_L_messages zk_974 rfl hl.1 rfl (Nat.le_of_ble_eq_true rfl) ⟨by decide, by decide⟩ ⟨by decide, by decide⟩ dL_law_24 (fun k2 M2 F2 H locs hr2 hp2 Wd => ?_)
  obtain ⟨rfl, hL3⟩ := hp2
  refine z_if_eq C0 (tgt := 49) (zR_mk (by decide) (by decide)) dL_law_27 (by decide) (fun h => absurd h (by decide)) (fun _ => ?_)
  refine z_aload_n C0 hl 0 rfl dL_law_30 ?_
  refine z_invSi (As := [.ref (ad 0)]) (rest := []) C0 Wd (lw_codes l g [] ad M2 F2 hL3 hst) ks_L_codes zk_1432 rfl hl.1 rfl (Nat.le_of_ble_eq_true rfl) ⟨by decide, by decide⟩ ⟨by decide, by decide⟩ dL_law_31 (fun k3 M3 F3 H locs hr3 hp3 Wd => ?_)
  obtain ⟨rfl, hL4⟩ := hp3
  refine z_if_eq C0 (tgt := 49) (zR_mk (by decide) (by decide)) dL_law_34 (by decide) (fun h => absurd h (by decide)) (fun _ => ?_)
  refine z_aload_n C0 hl 1 rfl dL_law_37 ?_
  refine z_aload_n C0 hl 0 rfl dL_law_38 ?_
  refine z_invSx (As := [.ref b, .ref (ad 0)]) (rest := []) C0 Wd (lw_undone l g [] ad M3 F3 b L xs hL9 hL4 (by omega) hst) ks_L_undone zSc_k hS0 zk_1468 rfl hl.1 rfl (Nat.le_of_ble_eq_true rfl) ⟨by decide, by decide⟩ ⟨by decide, by decide⟩ dL_law_39 (z_kki (fun k9 M9 F9 H locs hr9 hp9 Wd => ?_))
  obtain rfl : k9 = 1 := hp9
  refine z_if_eq C0 (tgt := 49) (zR_mk (by decide) (by decide)) dL_law_42 (by decide) (fun h => absurd h (by decide)) (fun _ => ?_)
  refine z_iconst C0 dL_law_45 ?_
  refine z_goto C0 (tgt := 50) dL_law_46 (by decide) ?_
  rw [show zI 1 = (1 : Int32) from rfl]
  refine va_forget (fun q hq => Wd.1.2.2.2.2 q hq) ?_
  refine W.widen (k := 600390) (n := 7288080) (by decide) (by decide) ?_
  refine W.base ?_
  exact lw_ret (Drawn.sameBut.refl s.drawn lw_cs) hx hb hr hlocks dL_law_50
