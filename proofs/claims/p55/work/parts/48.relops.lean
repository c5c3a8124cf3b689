/-! a tick keeps the relation -/
theorem zRm_one {b p : Int} {V V' : Int → Int} {M M' F : zMem} (h : zRm b V M F) (hp : zRp b F) (h2 : V 2 ≤ 8) (h6 : ∀ p, 0 ≤ p → p < V 2 → V (96 + 47 * p + 6) ≤ 5) (p0 : 0 ≤ p) (p1 : p < V 2) (hM : ∀ o, zMo b o → o ≠ F (b + 6) p → M' o = M o ∧ M' (o + 1) = M (o + 1)) (hV2 : V' 2 = V 2) (hV : ∀ i, 96 ≤ i → i < 472 → (i < 96 + 47 * p ∨ 96 + 47 * p + 47 ≤ i) → V' i = V i) (hn : zRm1 b p (F (b + 6) p) V' M') : zRm b V' M' F := fun q q0 q1 => by
  rw [hV2] at q1
  by_cases e : q = p
  · rw [e]; exact hn
  · have hne : F (b + 6) q ≠ F (b + 6) p := fun z => e (hp.2 q p ⟨q0, by omega⟩ ⟨p0, by omega⟩ z)
    exact zRm1_c (h q q0 q1) q0 (by omega) (hM _ (hp.1 q ⟨q0, by omega⟩) hne) (h6 q q0 q1) (fun k k0 k1 => hV _ (by omega) (by omega) (by omega))
theorem zMo_ne {b o o' : Int} (h : zMo b o) (h' : zMo b o') : o + 1 ≠ o' ∧ o ≠ o' + 1 := by
  obtain ⟨-, k, k0, k1, e1⟩ := h
  obtain ⟨-, k', k0', k1', e2⟩ := h'
  omega
set_option maxHeartbeats 1000000 in
theorem zR_begin {b zt : Int} {V : Int → Int} {M F : zMem} (hr : zRS b V M F) (hI : zIV zt V) {p : Int} (hp : 0 ≤ p ∧ p < V 2) : zRS b (zup (zup V (96 + 47 * p + 4) 100) (96 + 47 * p + 6) 0) (zu (zu M (F (b + 6) p) 4 100) (F (b + 6) p) 6 0) F := by
  have h0b := hI.1
  have h1b := hI.2.1
  have h2b := hI.2.2.1
  have hc := hr.1
  obtain ⟨c0, c1, c2, c4, c5, c7, c8, c9, c10⟩ := hc
  have hmo := hr.mo hp.1 (show p < 8 by omega)
  have hbd := zMo_bd hmo
  obtain ⟨⟨m0, m1, m2, m3, m4, m5, m6⟩, mh⟩ := hr.2.2.2.2.2.1 p hp.1 hp.2
  refine ⟨?_, ?_, ?_, ?_, ?_, ?_, ?_⟩
  · exact ⟨by (repeat (first | rw [zu_ne (by omega)] | rw [zu_at (by omega) (by omega)] | rw [zup_ne (by omega)] | rw [zup_at (by omega)])); first | done | assumption, by rw [zTu_c (V := V) (fun i h0 h1 => by (repeat (first | rw [zu_ne (by omega)] | rw [zu_at (by omega) (by omega)] | rw [zup_ne (by omega)] | rw [zup_at (by omega)])))]; (repeat (first | rw [zu_ne (by omega)] | rw [zu_at (by omega) (by omega)] | rw [zup_ne (by omega)] | rw [zup_at (by omega)])); first | done | assumption, by (repeat (first | rw [zu_ne (by omega)] | rw [zu_at (by omega) (by omega)] | rw [zup_ne (by omega)] | rw [zup_at (by omega)])); first | done | assumption, by (repeat (first | rw [zu_ne (by omega)] | rw [zu_at (by omega) (by omega)] | rw [zup_ne (by omega)] | rw [zup_at (by omega)])); first | done | assumption, by (repeat (first | rw [zu_ne (by omega)] | rw [zu_at (by omega) (by omega)] | rw [zup_ne (by omega)] | rw [zup_at (by omega)])); first | done | assumption, by (repeat (first | rw [zu_ne (by omega)] | rw [zu_at (by omega) (by omega)] | rw [zup_ne (by omega)] | rw [zup_at (by omega)])); first | done | assumption, by (repeat (first | rw [zu_ne (by omega)] | rw [zu_at (by omega) (by omega)] | rw [zup_ne (by omega)] | rw [zup_at (by omega)])); first | done | assumption, by (repeat (first | rw [zu_ne (by omega)] | rw [zu_at (by omega) (by omega)] | rw [zup_ne (by omega)] | rw [zup_at (by omega)])); first | done | assumption, by (repeat (first | rw [zu_ne (by omega)] | rw [zu_at (by omega) (by omega)] | rw [zup_ne (by omega)] | rw [zup_at (by omega)])); first | done | assumption⟩
  · exact zRt_c hr.2.1 (by (repeat (rw [zu_row (by omega)]))) (fun i h0 h1 => by (repeat (first | rw [zu_ne (by omega)] | rw [zu_at (by omega) (by omega)] | rw [zup_ne (by omega)] | rw [zup_at (by omega)])))
  · exact zRw_c hr.2.2.1 (by (repeat (rw [zu_row (by omega)]))) (fun i h0 h1 => by (repeat (first | rw [zu_ne (by omega)] | rw [zu_at (by omega) (by omega)] | rw [zup_ne (by omega)] | rw [zup_at (by omega)])))
  · exact zRh_c hr.2.2.2.1 (fun q h0 h1 => by (repeat (rw [zu_row (by omega)]))) hI.2.1.2 (by (repeat (first | rw [zu_ne (by omega)] | rw [zu_at (by omega) (by omega)] | rw [zup_ne (by omega)] | rw [zup_at (by omega)]))) (fun i h0 h1 => by (repeat (first | rw [zu_ne (by omega)] | rw [zu_at (by omega) (by omega)] | rw [zup_ne (by omega)] | rw [zup_at (by omega)])))
  · exact hr.2.2.2.2.1
  · refine zRm_one hr.2.2.2.2.2.1 hr.2.2.2.2.1 hI.2.2.1.2 (zIV_b6 hI) hp.1 hp.2 (fun o ho hne => by have := zMo_bd ho; have := zMo_ne ho hmo; constructor <;> (repeat (rw [zu_row (by omega)]))) (by (repeat (first | rw [zu_ne (by omega)] | rw [zu_at (by omega) (by omega)] | rw [zup_ne (by omega)] | rw [zup_at (by omega)]))) (fun i h0 h1 h2 => by (repeat (first | rw [zu_ne (by omega)] | rw [zu_at (by omega) (by omega)] | rw [zup_ne (by omega)] | rw [zup_at (by omega)]))) ?_
    exact ⟨⟨by (repeat (first | rw [zu_ne (by omega)] | rw [zu_at (by omega) (by omega)] | rw [zup_ne (by omega)] | rw [zup_at (by omega)])); first | done | assumption, by (repeat (first | rw [zu_ne (by omega)] | rw [zu_at (by omega) (by omega)] | rw [zup_ne (by omega)] | rw [zup_at (by omega)])); first | done | assumption, by (repeat (first | rw [zu_ne (by omega)] | rw [zu_at (by omega) (by omega)] | rw [zup_ne (by omega)] | rw [zup_at (by omega)])); first | done | assumption, by (repeat (first | rw [zu_ne (by omega)] | rw [zu_at (by omega) (by omega)] | rw [zup_ne (by omega)] | rw [zup_at (by omega)])); first | done | assumption, by (repeat (first | rw [zu_ne (by omega)] | rw [zu_at (by omega) (by omega)] | rw [zup_ne (by omega)] | rw [zup_at (by omega)])); first | done | assumption, by (repeat (first | rw [zu_ne (by omega)] | rw [zu_at (by omega) (by omega)] | rw [zup_ne (by omega)] | rw [zup_at (by omega)])); first | done | assumption, by (repeat (first | rw [zu_ne (by omega)] | rw [zu_at (by omega) (by omega)] | rw [zup_ne (by omega)] | rw [zup_at (by omega)])); first | done | assumption⟩, fun q c q0 q1 => by rw [zup_at (by omega)] at q1; omega⟩
  · exact zRa_c hr.2.2.2.2.2.2 (by (repeat (rw [zu_row (by omega)]))) (by (repeat (first | rw [zu_ne (by omega)] | rw [zu_at (by omega) (by omega)] | rw [zup_ne (by omega)] | rw [zup_at (by omega)]))) (fun i h0 h1 => by (repeat (first | rw [zu_ne (by omega)] | rw [zu_at (by omega) (by omega)] | rw [zup_ne (by omega)] | rw [zup_at (by omega)])))
set_option maxHeartbeats 1000000 in
theorem zR_deliver {b zt : Int} {V : Int → Int} {M F : zMem} (hr : zRS b V M F) (hI : zIV zt V) {p : Int} (hp : 0 ≤ p ∧ p < V 2) : zRS b (zup (zup (zup (zup (zup V (96 + 47 * p + 6) 0) (96 + 47 * p + 4) 114) (72 + 4 * V (96 + 47 * p + 2) + 2) (V (72 + 4 * V (96 + 47 * p + 2) + 2) + 1)) (72 + 4 * V (96 + 47 * p + 2) + 3) (V (96 + 47 * p + 3) + 1)) 6 (V 6 + 1)) (zu (zu (zu (zu (zu M (F (b + 6) p) 4 114) (F (b + 6) p) 6 0) b 9 (V 6 + 1)) (b + 9 + V (96 + 47 * p + 2)) 2 (V (72 + 4 * V (96 + 47 * p + 2) + 2) + 1)) (b + 9 + V (96 + 47 * p + 2)) 3 (V (96 + 47 * p + 3))) F := by
  have h0b := hI.1
  have h1b := hI.2.1
  have h2b := hI.2.2.1
  have hc := hr.1
  obtain ⟨c0, c1, c2, c4, c5, c7, c8, c9, c10⟩ := hc
  have hmo := hr.mo hp.1 (show p < 8 by omega)
  have hbd := zMo_bd hmo
  obtain ⟨⟨m0, m1, m2, m3, m4, m5, m6⟩, mh⟩ := hr.2.2.2.2.2.1 p hp.1 hp.2
  have hrc := (hI.2.2.2.2.2.2.1 p hp.1 hp.2).2.2.1
  refine ⟨?_, ?_, ?_, ?_, ?_, ?_, ?_⟩
  · exact ⟨by (repeat (first | rw [zu_ne (by omega)] | rw [zu_at (by omega) (by omega)] | rw [zup_ne (by omega)] | rw [zup_at (by omega)])); first | done | assumption, by rw [zTu_c (V := V) (fun i h0 h1 => by (repeat (first | rw [zu_ne (by omega)] | rw [zu_at (by omega) (by omega)] | rw [zup_ne (by omega)] | rw [zup_at (by omega)])))]; (repeat (first | rw [zu_ne (by omega)] | rw [zu_at (by omega) (by omega)] | rw [zup_ne (by omega)] | rw [zup_at (by omega)])); first | done | assumption, by (repeat (first | rw [zu_ne (by omega)] | rw [zu_at (by omega) (by omega)] | rw [zup_ne (by omega)] | rw [zup_at (by omega)])); first | done | assumption, by (repeat (first | rw [zu_ne (by omega)] | rw [zu_at (by omega) (by omega)] | rw [zup_ne (by omega)] | rw [zup_at (by omega)])); first | done | assumption, by (repeat (first | rw [zu_ne (by omega)] | rw [zu_at (by omega) (by omega)] | rw [zup_ne (by omega)] | rw [zup_at (by omega)])); first | done | assumption, by (repeat (first | rw [zu_ne (by omega)] | rw [zu_at (by omega) (by omega)] | rw [zup_ne (by omega)] | rw [zup_at (by omega)])); first | done | assumption, by (repeat (first | rw [zu_ne (by omega)] | rw [zu_at (by omega) (by omega)] | rw [zup_ne (by omega)] | rw [zup_at (by omega)])); first | done | assumption, by (repeat (first | rw [zu_ne (by omega)] | rw [zu_at (by omega) (by omega)] | rw [zup_ne (by omega)] | rw [zup_at (by omega)])); first | done | assumption, by (repeat (first | rw [zu_ne (by omega)] | rw [zu_at (by omega) (by omega)] | rw [zup_ne (by omega)] | rw [zup_at (by omega)])); first | done | assumption⟩
  · exact zRt_c hr.2.1 (by (repeat (rw [zu_row (by omega)]))) (fun i h0 h1 => by (repeat (first | rw [zu_ne (by omega)] | rw [zu_at (by omega) (by omega)] | rw [zup_ne (by omega)] | rw [zup_at (by omega)])))
  · exact zRw_c hr.2.2.1 (by (repeat (rw [zu_row (by omega)]))) (fun i h0 h1 => by (repeat (first | rw [zu_ne (by omega)] | rw [zu_at (by omega) (by omega)] | rw [zup_ne (by omega)] | rw [zup_at (by omega)])))
  · intro q h0 h1
    have h1' : q < V 1 := by have e := h1; rw [zup_ne (by omega), zup_ne (by omega), zup_ne (by omega), zup_ne (by omega), zup_ne (by omega)] at e; exact e
    obtain ⟨a0, a1, a2, a3⟩ := hr.2.2.2.1 q h0 h1'
    by_cases e : q = V (96 + 47 * p + 2)
    · subst e
      exact ⟨by (repeat (first | rw [zu_ne (by omega)] | rw [zu_at (by omega) (by omega)] | rw [zup_ne (by omega)] | rw [zup_at (by omega)])); exact a0, by (repeat (first | rw [zu_ne (by omega)] | rw [zu_at (by omega) (by omega)] | rw [zup_ne (by omega)] | rw [zup_at (by omega)])); exact a1, by (repeat (first | rw [zu_ne (by omega)] | rw [zu_at (by omega) (by omega)] | rw [zup_ne (by omega)] | rw [zup_at (by omega)])), fun z => by (repeat (first | rw [zu_ne (by omega)] | rw [zu_at (by omega) (by omega)] | rw [zup_ne (by omega)] | rw [zup_at (by omega)])); omega⟩
    · exact ⟨by (repeat (first | rw [zu_ne (by omega)] | rw [zu_at (by omega) (by omega)] | rw [zup_ne (by omega)] | rw [zup_at (by omega)])); exact a0, by (repeat (first | rw [zu_ne (by omega)] | rw [zu_at (by omega) (by omega)] | rw [zup_ne (by omega)] | rw [zup_at (by omega)])); exact a1, by (repeat (first | rw [zu_ne (by omega)] | rw [zu_at (by omega) (by omega)] | rw [zup_ne (by omega)] | rw [zup_at (by omega)])); exact a2, fun z => by
        have z2 : 0 < V (72 + 4 * q + 2) := by revert z; (repeat (first | rw [zu_ne (by omega)] | rw [zu_at (by omega) (by omega)] | rw [zup_ne (by omega)] | rw [zup_at (by omega)])); exact id
        (repeat (first | rw [zu_ne (by omega)] | rw [zu_at (by omega) (by omega)] | rw [zup_ne (by omega)] | rw [zup_at (by omega)]))
        exact a3 z2⟩
  · exact hr.2.2.2.2.1
  · refine zRm_one hr.2.2.2.2.2.1 hr.2.2.2.2.1 hI.2.2.1.2 (zIV_b6 hI) hp.1 hp.2 (fun o ho hne => by have := zMo_bd ho; have := zMo_ne ho hmo; constructor <;> (repeat (rw [zu_row (by omega)]))) (by (repeat (first | rw [zu_ne (by omega)] | rw [zu_at (by omega) (by omega)] | rw [zup_ne (by omega)] | rw [zup_at (by omega)]))) (fun i h0 h1 h2 => by (repeat (first | rw [zu_ne (by omega)] | rw [zu_at (by omega) (by omega)] | rw [zup_ne (by omega)] | rw [zup_at (by omega)]))) ?_
    exact ⟨⟨by (repeat (first | rw [zu_ne (by omega)] | rw [zu_at (by omega) (by omega)] | rw [zup_ne (by omega)] | rw [zup_at (by omega)])); first | done | assumption, by (repeat (first | rw [zu_ne (by omega)] | rw [zu_at (by omega) (by omega)] | rw [zup_ne (by omega)] | rw [zup_at (by omega)])); first | done | assumption, by (repeat (first | rw [zu_ne (by omega)] | rw [zu_at (by omega) (by omega)] | rw [zup_ne (by omega)] | rw [zup_at (by omega)])); first | done | assumption, by (repeat (first | rw [zu_ne (by omega)] | rw [zu_at (by omega) (by omega)] | rw [zup_ne (by omega)] | rw [zup_at (by omega)])); first | done | assumption, by (repeat (first | rw [zu_ne (by omega)] | rw [zu_at (by omega) (by omega)] | rw [zup_ne (by omega)] | rw [zup_at (by omega)])); first | done | assumption, by (repeat (first | rw [zu_ne (by omega)] | rw [zu_at (by omega) (by omega)] | rw [zup_ne (by omega)] | rw [zup_at (by omega)])); first | done | assumption, by (repeat (first | rw [zu_ne (by omega)] | rw [zu_at (by omega) (by omega)] | rw [zup_ne (by omega)] | rw [zup_at (by omega)])); first | done | assumption⟩, fun q c q0 q1 => by rw [zup_ne (by omega), zup_ne (by omega), zup_ne (by omega), zup_ne (by omega), zup_at (by omega)] at q1; omega⟩
  · exact zRa_c hr.2.2.2.2.2.2 (by (repeat (rw [zu_row (by omega)]))) (by (repeat (first | rw [zu_ne (by omega)] | rw [zu_at (by omega) (by omega)] | rw [zup_ne (by omega)] | rw [zup_at (by omega)]))) (fun i h0 h1 => by (repeat (first | rw [zu_ne (by omega)] | rw [zu_at (by omega) (by omega)] | rw [zup_ne (by omega)] | rw [zup_at (by omega)])))
set_option maxHeartbeats 1000000 in
theorem zR_lose {b zt : Int} {V : Int → Int} {M F : zMem} (hr : zRS b V M F) (hI : zIV zt V) {p : Int} (hp : 0 ≤ p ∧ p < V 2) {s : Int} : zRS b (zup (zup (zup (zup V (96 + 47 * p + 6) 0) (96 + 47 * p + 5) (V (96 + 47 * p + 5) + 1)) (96 + 47 * p + 4) s) 7 (V 7 + 1)) (zu (zu (zu (zu M (F (b + 6) p) 5 (V (96 + 47 * p + 5) + 1)) (F (b + 6) p) 4 s) (F (b + 6) p) 6 0) b 10 (V 7 + 1)) F := by
  have h0b := hI.1
  have h1b := hI.2.1
  have h2b := hI.2.2.1
  have hc := hr.1
  obtain ⟨c0, c1, c2, c4, c5, c7, c8, c9, c10⟩ := hc
  have hmo := hr.mo hp.1 (show p < 8 by omega)
  have hbd := zMo_bd hmo
  obtain ⟨⟨m0, m1, m2, m3, m4, m5, m6⟩, mh⟩ := hr.2.2.2.2.2.1 p hp.1 hp.2
  refine ⟨?_, ?_, ?_, ?_, ?_, ?_, ?_⟩
  · exact ⟨by (repeat (first | rw [zu_ne (by omega)] | rw [zu_at (by omega) (by omega)] | rw [zup_ne (by omega)] | rw [zup_at (by omega)])); first | done | assumption, by rw [zTu_c (V := V) (fun i h0 h1 => by (repeat (first | rw [zu_ne (by omega)] | rw [zu_at (by omega) (by omega)] | rw [zup_ne (by omega)] | rw [zup_at (by omega)])))]; (repeat (first | rw [zu_ne (by omega)] | rw [zu_at (by omega) (by omega)] | rw [zup_ne (by omega)] | rw [zup_at (by omega)])); first | done | assumption, by (repeat (first | rw [zu_ne (by omega)] | rw [zu_at (by omega) (by omega)] | rw [zup_ne (by omega)] | rw [zup_at (by omega)])); first | done | assumption, by (repeat (first | rw [zu_ne (by omega)] | rw [zu_at (by omega) (by omega)] | rw [zup_ne (by omega)] | rw [zup_at (by omega)])); first | done | assumption, by (repeat (first | rw [zu_ne (by omega)] | rw [zu_at (by omega) (by omega)] | rw [zup_ne (by omega)] | rw [zup_at (by omega)])); first | done | assumption, by (repeat (first | rw [zu_ne (by omega)] | rw [zu_at (by omega) (by omega)] | rw [zup_ne (by omega)] | rw [zup_at (by omega)])); first | done | assumption, by (repeat (first | rw [zu_ne (by omega)] | rw [zu_at (by omega) (by omega)] | rw [zup_ne (by omega)] | rw [zup_at (by omega)])); first | done | assumption, by (repeat (first | rw [zu_ne (by omega)] | rw [zu_at (by omega) (by omega)] | rw [zup_ne (by omega)] | rw [zup_at (by omega)])); first | done | assumption, by (repeat (first | rw [zu_ne (by omega)] | rw [zu_at (by omega) (by omega)] | rw [zup_ne (by omega)] | rw [zup_at (by omega)])); first | done | assumption⟩
  · exact zRt_c hr.2.1 (by (repeat (rw [zu_row (by omega)]))) (fun i h0 h1 => by (repeat (first | rw [zu_ne (by omega)] | rw [zu_at (by omega) (by omega)] | rw [zup_ne (by omega)] | rw [zup_at (by omega)])))
  · exact zRw_c hr.2.2.1 (by (repeat (rw [zu_row (by omega)]))) (fun i h0 h1 => by (repeat (first | rw [zu_ne (by omega)] | rw [zu_at (by omega) (by omega)] | rw [zup_ne (by omega)] | rw [zup_at (by omega)])))
  · exact zRh_c hr.2.2.2.1 (fun q h0 h1 => by (repeat (rw [zu_row (by omega)]))) hI.2.1.2 (by (repeat (first | rw [zu_ne (by omega)] | rw [zu_at (by omega) (by omega)] | rw [zup_ne (by omega)] | rw [zup_at (by omega)]))) (fun i h0 h1 => by (repeat (first | rw [zu_ne (by omega)] | rw [zu_at (by omega) (by omega)] | rw [zup_ne (by omega)] | rw [zup_at (by omega)])))
  · exact hr.2.2.2.2.1
  · refine zRm_one hr.2.2.2.2.2.1 hr.2.2.2.2.1 hI.2.2.1.2 (zIV_b6 hI) hp.1 hp.2 (fun o ho hne => by have := zMo_bd ho; have := zMo_ne ho hmo; constructor <;> (repeat (rw [zu_row (by omega)]))) (by (repeat (first | rw [zu_ne (by omega)] | rw [zu_at (by omega) (by omega)] | rw [zup_ne (by omega)] | rw [zup_at (by omega)]))) (fun i h0 h1 h2 => by (repeat (first | rw [zu_ne (by omega)] | rw [zu_at (by omega) (by omega)] | rw [zup_ne (by omega)] | rw [zup_at (by omega)]))) ?_
    exact ⟨⟨by (repeat (first | rw [zu_ne (by omega)] | rw [zu_at (by omega) (by omega)] | rw [zup_ne (by omega)] | rw [zup_at (by omega)])); first | done | assumption, by (repeat (first | rw [zu_ne (by omega)] | rw [zu_at (by omega) (by omega)] | rw [zup_ne (by omega)] | rw [zup_at (by omega)])); first | done | assumption, by (repeat (first | rw [zu_ne (by omega)] | rw [zu_at (by omega) (by omega)] | rw [zup_ne (by omega)] | rw [zup_at (by omega)])); first | done | assumption, by (repeat (first | rw [zu_ne (by omega)] | rw [zu_at (by omega) (by omega)] | rw [zup_ne (by omega)] | rw [zup_at (by omega)])); first | done | assumption, by (repeat (first | rw [zu_ne (by omega)] | rw [zu_at (by omega) (by omega)] | rw [zup_ne (by omega)] | rw [zup_at (by omega)])); first | done | assumption, by (repeat (first | rw [zu_ne (by omega)] | rw [zu_at (by omega) (by omega)] | rw [zup_ne (by omega)] | rw [zup_at (by omega)])); first | done | assumption, by (repeat (first | rw [zu_ne (by omega)] | rw [zu_at (by omega) (by omega)] | rw [zup_ne (by omega)] | rw [zup_at (by omega)])); first | done | assumption⟩, fun q c q0 q1 => by rw [zup_ne (by omega), zup_ne (by omega), zup_ne (by omega), zup_at (by omega)] at q1; omega⟩
  · exact zRa_c hr.2.2.2.2.2.2 (by (repeat (rw [zu_row (by omega)]))) (by (repeat (first | rw [zu_ne (by omega)] | rw [zu_at (by omega) (by omega)] | rw [zup_ne (by omega)] | rw [zup_at (by omega)]))) (fun i h0 h1 => by (repeat (first | rw [zu_ne (by omega)] | rw [zu_at (by omega) (by omega)] | rw [zup_ne (by omega)] | rw [zup_at (by omega)])))
/-! thumps -/
/-- the delay as the class sees it -/
def zdl (V : Int → Int) (h c : Int) : Int := if c < V 0 then zBF V h c else 1000
theorem zHear_is {p q : Int} {n W : Int → Int} (hp : 0 ≤ p ∧ p < 8) (hq : 0 ≤ q ∧ q < 5) : ∀ m : Nat, m ≤ 8 → (∀ j, (∀ c, 0 ≤ c → c < (m : Int) → j ≠ 96 + 47 * p + (7 + 8 * q + c) ∧ (j < 472 + 128 * c ∨ 472 + 128 * c + 128 ≤ j)) → zfold (fun c W => zHear p q n c W) m W j = W j) ∧
    (∀ c, 0 ≤ c → c < (m : Int) → zfold (fun c W => zHear p q n c W) m W (96 + 47 * p + (7 + 8 * q + c)) = if n c < 1000 then W 4 + n c + 1 else 0) ∧
    ∀ c x, 0 ≤ c → c < (m : Int) → 0 ≤ x → x < 128 → zfold (fun c W => zHear p q n c W) m W (472 + 128 * c + x) = W (472 + 128 * c + x) + (if n c < 1000 ∧ x = (W 4 + n c) % 128 then 1 else 0)
  | 0, _ => ⟨fun j _ => rfl, fun c h0 h1 => by omega, fun c x h0 h1 => by omega⟩
  | m + 1, hm => by
    obtain ⟨i1, i2, i3⟩ := zHear_is (n := n) (W := W) hp hq m (by omega)
    have e4 : zfold (fun c W => zHear p q n c W) m W 4 = W 4 := i1 4 (fun c h0 h1 => by omega)
    have hd : ∀ j, zfold (fun c W => zHear p q n c W) (m + 1) W j = zHear p q n m (zfold (fun c W => zHear p q n c W) m W) j := fun _ => rfl
    have er : zfold (fun c W => zHear p q n c W) m W (472 + 128 * (m : Int) + (W 4 + n m) % 128) = W (472 + 128 * (m : Int) + (W 4 + n m) % 128) := i1 _ (fun c h0 h1 => by omega)
    refine ⟨fun j hj => ?_, fun c c0 c1 => ?_, fun c x c0 c1 x0 x1 => ?_⟩
    · rw [hd]
      clear hd
      generalize zfold (fun c W => zHear p q n c W) m W = X at *
      unfold zHear
      have hm9 := hj m (by omega) (by omega)
      rw [e4, zup_ne (by omega), zup_ne (by omega)]
      exact i1 j (fun c h0 h1 => hj c h0 (by omega))
    · rw [hd]
      clear hd
      generalize zfold (fun c W => zHear p q n c W) m W = X at *
      unfold zHear
      rw [e4, zup_ne (by omega)]
      by_cases e : c = m
      · rw [e, zup_same]
      · rw [zup_ne (by omega)]
        exact i2 c c0 (by omega)
    · rw [hd]
      clear hd
      generalize zfold (fun c W => zHear p q n c W) m W = X at *
      unfold zHear
      rw [e4]
      by_cases e : c = m
      · subst e
        by_cases ex : x = (W 4 + n m) % 128
        · rw [zup_at (by omega), er, ex]
          by_cases e5 : n m < 1000
          · rw [if_pos e5, if_pos ⟨e5, rfl⟩]
          · rw [if_neg e5, if_neg (fun z => e5 z.1)]
        · rw [zup_ne (by omega), zup_ne (by omega), if_neg (fun z => ex z.2), i1 _ (fun c h0 h1 => by omega)]
          omega
      · rw [zup_ne (by omega), zup_ne (by omega)]
        exact i3 c x c0 (by omega) x0 x1
/-- no beat is heard in a chamber that is not there -/
def zHz (V : Int → Int) : Prop := ∀ p q c, 0 ≤ p → p < V 2 → 0 ≤ q → q < 5 → V 0 ≤ c → c < 8 → V (96 + 47 * p + (7 + 8 * q + c)) = 0
theorem zDr_is {zt p : Int} {V : Int → Int} (hI : zIV zt V) (hz : zHz V) (hp : 0 ≤ p ∧ p < V 2) (hd : V (96 + 47 * p + 6) ≤ 4) (h1 : ¬ zbt (V (96 + 47 * p + 3)) (V (96 + 47 * p + 6)) = 0) :
    (∀ j, j ≠ 5 → j ≠ 96 + 47 * p + 6 → j < 472 ∨ 1496 ≤ j → (∀ c, zc8 c → j ≠ 96 + 47 * p + (7 + 8 * V (96 + 47 * p + 6) + c)) → zDr p V j = V j) ∧ zDr p V 5 = V 5 + 1 ∧ zDr p V (96 + 47 * p + 6) = V (96 + 47 * p + 6) + 1 ∧
    (∀ c, zc8 c → zDr p V (96 + 47 * p + (7 + 8 * V (96 + 47 * p + 6) + c)) = if zdl V (zhm V p) c < 1000 then V 4 + zdl V (zhm V p) c + 1 else 0) ∧
    ∀ c x, zc8 c → 0 ≤ x → x < 128 → zDr p V (472 + 128 * c + x) = V (472 + 128 * c + x) + (if zdl V (zhm V p) c < 1000 ∧ x = (V 4 + zdl V (zhm V p) c) % 128 then 1 else 0) := by
  have h0b := hI.1
  have h1b := hI.2.1
  have h2b := hI.2.2.1
  obtain ⟨m0, m1, m2, m3, -, m5, -, m7, -⟩ := hI.2.2.2.2.2.2.1 p hp.1 hp.2
  have eT : ∀ i, 8 ≤ i → i < 72 → zDr2 p V i = V i := fun i i0 i1 => by
    unfold zDr2 zDr1
    rw [zup_ne (by omega), zup_ne (by omega)]
  have e1 : zDr2 p V (96 + 47 * p + 1) = V (96 + 47 * p + 1) := by
    unfold zDr2 zDr1
    rw [zup_ne (by omega), zup_ne (by omega)]
  have eh : zhm (zDr2 p V) p = zhm V p := by
    show zDr2 p V (72 + 4 * zDr2 p V (96 + 47 * p + 1) + 0) = _
    rw [e1]
    unfold zDr2 zDr1
    rw [zup_ne (by omega), zup_ne (by omega)]
  have e4 : zDr2 p V 4 = V 4 := by
    unfold zDr2 zDr1
    rw [zup_ne (by omega), zup_ne (by omega)]
  have eo : ∀ j, j ≠ 5 → j ≠ 96 + 47 * p + 6 → zDr2 p V j = V j := fun j a1 a2 => by
    unfold zDr2 zDr1
    rw [zup_ne (by omega), zup_ne (by omega)]
  have ed : zDr p V = zfold (fun c W => zHear p (V (96 + 47 * p + 6)) (zBF V (zhm V p)) c W) (V 0).toNat (zDr2 p V) := by
    unfold zDr
    rw [if_neg h1, eh, zBF_c eT]
  obtain ⟨a1, a2, a3⟩ := zHear_is (p := p) (q := V (96 + 47 * p + 6)) (n := zBF V (zhm V p)) (W := zDr2 p V) ⟨hp.1, by omega⟩ ⟨m7.1, by omega⟩ (V 0).toNat (by omega)
  rw [← ed, e4] at *
  refine ⟨fun j b1 b2 b3 b4 => ?_, ?_, ?_, fun c hc => ?_, fun c x hc x0 x1 => ?_⟩
  · rw [a1 j (fun c c0 c1 => ⟨b4 c ⟨c0, by omega⟩, by omega⟩), eo j b1 b2]
  · rw [a1 5 (fun c c0 c1 => by omega)]
    unfold zDr2
    rw [zup_same]
  · rw [a1 (96 + 47 * p + 6) (fun c c0 c1 => by omega)]
    unfold zDr2 zDr1
    rw [zup_ne (by omega), zup_same]
  · have c0 := hc.1
    have c1 := hc.2
    unfold zdl
    by_cases e : c < V 0
    · rw [a2 c c0 (by omega), if_pos e]
    · rw [a1 _ (fun c' b0 b1 => by omega), if_neg e, if_neg (by omega), eo _ (by omega) (by omega)]
      exact hz p (V (96 + 47 * p + 6)) c hp.1 hp.2 m7.1 (by omega) (by omega) c1
  · have c0 := hc.1
    have c1 := hc.2
    unfold zdl
    by_cases e : c < V 0
    · rw [a3 c x c0 (by omega) x0 x1, if_pos e, eo _ (by omega) (by omega)]
    · rw [a1 _ (fun c' b0 b1 => by omega), if_neg e, if_neg (by omega), eo _ (by omega) (by omega)]
      omega
