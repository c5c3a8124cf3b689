/-! the law from its entry -/
set_option maxHeartbeats 8000000 in
set_option maxRecDepth 1000000 in
theorem whole_start {p : Program} {e : Env} {s : State} {m : MethodId} {below : List Frame} {meth : Method} {c : Code} (l : Launch) (hflags : l.flags = flags0) {b L : Nat} {xs : Nat → Int32} (hL : L ≤ 2048) (C0 : lw_At p s m meth c b L xs) : W p l e room_1 s m #[Value.ref b] below meth c s.heap [] 0 0 (lw_Z below #[Value.ref b] s) (entryFrame m ([Value.ref b] : List Value).toArray 9) := by
  obtain ⟨hx, hb, hr, hml, hown, hts, hX, hbl, hlocks, hgv⟩ := C0
  have hfl : ∀ c ∈ zFl, c.before #[Value.ref b] s = true := flat_of_before _ hgv
  have hAlt : ∀ a : Nat, a < s.heap.size → ¬ (fun q => s.heap.size ≤ q) a := fun a h => Nat.not_le.mpr h
  obtain ⟨d1, d2, d3, hK⟩ := zK_start (A := fun _ => True) hts
  have hAO := zAO_start (A := fun _ => True) hts
  have hst : l.stackTraces = false := by
    unfold Launch.stackTraces
    rw [hflags]
    decide +kernel
  obtain ⟨g, hg⟩ : ∃ g : zG, g = (d1, d2, d3, adr #[Value.ref b] s) := ⟨_, rfl⟩
  have C0 : zC g (fun q => s.heap.size ≤ q) p s m #[Value.ref b] c cL_law 9 "DrumWarrenLaw" := by
    rw [hg]
    exact ⟨⟨hx, hb, hml, hown, fun w hw => hts w (List.mem_filter.mp hw).1⟩, hK _, ⟨zSa_start hts hfl hAlt d1 d2 d3, zSb_start (A := fun _ => True) hts hfl d1 d2 d3⟩, fun q h => h⟩
  clear hg hK
  have hl := lv_entry ([Value.ref b]) (n := 9) (Nat.le_of_ble_eq_true rfl)
  rw [lg_entry_eq]
  generalize (lg_sl ([Value.ref b]) ++ List.replicate (9 - (lg_sl ([Value.ref b])).length) Slot.unset).toArray = ls at hl ⊢
  have hl : lv_has ls 9 [(0, .ref b)] := hl
  have Wd : rW g (fun q => s.heap.size ≤ q) s.heap [] s.heap [] := ⟨fun k q hq => (by simp at hq), ⟨fun i j x y hx => (by simp at hx), fun k q hq => (by simp at hq)⟩, va_S.rf⟩
  refine r_new C0 Wd inZ_8 tyX11 tyX11_ok zk_103 zk_104 zk_65 (ci := 8) rfl (fs := [.null, .null, .null, .null, .null, .null, .int (zI 0), .int (zI 0), .int (zI 0)]) (by intro j hj; have hc : j = 0 ∨ j = 1 ∨ j = 2 ∨ j = 3 ∨ j = 4 ∨ j = 5 ∨ j = 6 ∨ j = 7 ∨ j = 8 := (by omega); rcases hc with rfl | rfl | rfl | rfl | rfl | rfl | rfl | rfl | rfl <;> rfl) (by decide) (by decide) dL_law_0 (fun b0 H Wd => ?_)
  refine z_dup C0 rfl dL_law_3 ?_
  refine r_init (wr := []) (wc := [(b0, .inr (8, [.null, .null, .null, .null, .null, .null, .int (zI 0), .int (zI 0), .int (zI 0)]))]) (As := []) (rest := [.ref b0]) C0 hAO Wd (ci_X11_init l g b0) ki_X11_init zk_105 rfl hl.1 rfl (Nat.le_of_ble_eq_true rfl) ⟨by decide, by decide⟩ ⟨by decide, by decide⟩ dL_law_4 (fun v w1 H locs hp Wd => ?_)
  obtain ⟨rfl, q, a, R, qh, bs, ah, Rh, ar, qs, hR, hRh, rfl⟩ := hp
  replace Wd := r_eq Wd (w1 := dwk g b0 q a R qh bs ah Rh ar qs) rfl
  refine z_astore_n C0 hl [(1, .ref b0), (0, .ref b)] (by decide) rfl dL_law_7 (fun ls hl => ?_)
  refine r_new C0 Wd inZ_9 tyX12 tyX12_ok zk_1606 zk_1607 zk_80 (ci := 9) rfl (fs := [.null, .null, .null, .null, .int (zI 0), .null, .int (zI 0), .null, .int (zI 0), .null, .int (zI 0), .null, .int (zI 0), .int (zI 0), .int (zI 0), .int (zI 0), .int (zI 0), .null, .int (zI 0)]) (by intro j hj; have hc : j = 0 ∨ j = 1 ∨ j = 2 ∨ j = 3 ∨ j = 4 ∨ j = 5 ∨ j = 6 ∨ j = 7 ∨ j = 8 ∨ j = 9 ∨ j = 10 ∨ j = 11 ∨ j = 12 ∨ j = 13 ∨ j = 14 ∨ j = 15 ∨ j = 16 ∨ j = 17 ∨ j = 18 := (by omega); rcases hc with rfl | rfl | rfl | rfl | rfl | rfl | rfl | rfl | rfl | rfl | rfl | rfl | rfl | rfl | rfl | rfl | rfl | rfl | rfl <;> rfl) (by decide) (by decide) dL_law_8 (fun mb H Wd => ?_)
  refine z_dup C0 rfl dL_law_11 ?_
  refine r_init (wr := dwk g b0 q a R qh bs ah Rh ar qs) (wc := [(mb, .inr (9, [.null, .null, .null, .null, .int (zI 0), .null, .int (zI 0), .null, .int (zI 0), .null, .int (zI 0), .null, .int (zI 0), .int (zI 0), .int (zI 0), .int (zI 0), .int (zI 0), .null, .int (zI 0)]))]) (As := []) (rest := [.ref mb]) C0 hAO Wd (ci_X12_init l g mb) ki_X12_init zk_1608 rfl hl.1 rfl (Nat.le_of_ble_eq_true rfl) ⟨by decide, by decide⟩ ⟨by decide, by decide⟩ dL_law_12 (fun v w1 H locs hp Wd => ?_)
  obtain ⟨rfl, q1, q2, q3, q4, q5, q6, q7, q8, q9, rfl⟩ := hp
  replace Wd := r_eq Wd (w1 := dwk g b0 q a R qh bs ah Rh ar qs ++ mdk g mb (fun j => ([q1, q2, q3, q4, q5, q6, q7, q8, q9] : List Nat).getD j 0)) rfl
  refine z_astore_n C0 hl [(2, .ref mb), (1, .ref b0), (0, .ref b)] (by decide) rfl dL_law_15 (fun ls hl => ?_)
  refine z_iconst C0 dL_law_16 ?_
  refine r_newa (atype := .long) C0 Wd (zT_at 2079 (by decide +kernel) (by decide +kernel)) rfl (ty := .long) (t := 7) (n := 1) (a0 := (1, .inr (.inl (fun _ => 0)))) rfl (fun _ => rfl) ⟨by decide, by decide⟩ rfl (by decide) (by decide) (by decide) dL_law_17 (fun o1 H Wd => ?_)
  refine z_astore_n C0 hl [(3, .ref o1), (2, .ref mb), (1, .ref b0), (0, .ref b)] (by decide) rfl dL_law_19 (fun ls hl => ?_)
  refine z_iconst C0 dL_law_20 ?_
  refine r_newa (atype := .double) C0 Wd (zT_at 2080 (by decide +kernel) (by decide +kernel)) rfl (ty := .double) (t := 8) (n := 1) (a0 := (1, .inr (.inr (.inr (.inl (fun _ => 0)))))) rfl (fun _ => rfl) ⟨by decide, by decide⟩ rfl (by decide) (by decide) (by decide) dL_law_21 (fun o2 H Wd => ?_)
  refine z_astore C0 hl [(4, .ref o2), (3, .ref o1), (2, .ref mb), (1, .ref b0), (0, .ref b)] (by decide) rfl dL_law_23 (fun ls hl => ?_)
  refine z_iconst C0 dL_law_25 ?_
  refine z_istore C0 hl [(5, .int (zI 0)), (4, .ref o2), (3, .ref o1), (2, .ref mb), (1, .ref b0), (0, .ref b)] (by decide) rfl dL_law_26 (fun ls hl => ?_)
  have Wz := mW_zW (ma := (fun j => ([q1, q2, q3, q4, q5, q6, q7, q8, q9] : List Nat).getD j 0)) hR hRh Wd
  refine law_loop C0 hX hbl hL hst ⟨by decide, by decide⟩ ⟨by decide, by decide⟩ (fun H1 locs1 ls1 c1 s1 hS hc hs => ?_) (L + 1) 0 (by omega) H _ _ _ ls mM mF (Nat.le_of_ble_eq_true rfl) (Nat.le_of_ble_eq_true rfl) (by decide) Wz (lv_sub hl [0, 5, 4, 3, 2, 1] rfl) (zCR_up zCR_0 (by omega) (by omega))
  refine z_iconst C0 dL_law_2908 ?_
  rw [show zI 1 = (1 : Int32) from rfl]
  refine va_forget (fun q hq => hS.2.2 q hq) ?_
  refine W.widen (k := 603072) (n := 7190634) (by omega) (by omega) ?_
  refine W.base ?_
  exact lw_ret (Drawn.sameBut.refl s.drawn lw_cs) hx hb hr hlocks dL_law_2909
