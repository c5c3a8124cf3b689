/-! a drummed beat, the end of a tick -/
set_option maxHeartbeats 1000000 in
theorem zR_drum0 {b zt : Int} {V : Int → Int} {M F : zMem} (hr : zRS b V M F) (hI : zIV zt V) {p : Int} (hp : 0 ≤ p ∧ p < V 2) (h1 : zbt (V (96 + 47 * p + 3)) (V (96 + 47 * p + 6)) = 0) : zRS b (zup V (96 + 47 * p + 6) (V (96 + 47 * p + 6) + 1)) (zu M (F (b + 6) p) 6 (V (96 + 47 * p + 6) + 1)) F := by
  have h0b := hI.1
  have h1b := hI.2.1
  have h2b := hI.2.2.1
  have hc := hr.1
  obtain ⟨c0, c1, c2, c4, c5, c7, c8, c9, c10⟩ := hc
  have hmo := hr.mo hp.1 (show p < 8 by omega)
  have hbd := zMo_bd hmo
  obtain ⟨⟨m0, m1, m2, m3, m4, m5, m6⟩, mh⟩ := hr.2.2.2.2.2.1 p hp.1 hp.2
  refine ⟨?_, ?_, ?_, ?_, ?_, ?_, ?_⟩
  · exact ⟨by (repeat (first | rw [zu_ne (by omega)] | rw [zu_at (by omega) (by omega)] | rw [zup_ne (by omega)] | rw [zup_at (by omega)])); first | done | assumption, by rw [zTu_c (V := V) (fun i h0 h1 => by (repeat (first | rw [zu_ne (by omega)] | rw [zu_at (by omega) (by omega)] | rw [zup_ne (by omega)] | rw [zup_at (by omega)])))]; (repeat (first | rw [zu_ne (by omega)] | rw [zu_at (by omega) (by omega)] | rw [zup_ne (by omega)] | rw [zup_at (by omega)])); first | done | assumption, by (repeat (first | rw [zu_ne (by omega)] | rw [zu_at (by omega) (by omega)] | rw [zup_ne (by omega)] | rw [zup_at (by omega)])); first | done | assumption, by (repeat (first | rw [zu_ne (by omega)] | rw [zu_at (by omega) (by omega)] | rw [zup_ne (by omega)] | rw [zup_at (by omega)])); first | done | assumption, by (repeat (first | rw [zu_ne (by omega)] | rw [zu_at (by omega) (by omega)] | rw [zup_ne (by omega)] | rw [zup_at (by omega)])); first | done | assumption, by (repeat (first | rw [zu_ne (by omega)] | rw [zu_at (by omega) (by omega)] | rw [zup_ne (by omega)] | rw [zup_at (by omega)])); first | done | assumption, by (repeat (first | rw [zu_ne (by omega)] | rw [zu_at (by omega) (by omega)] | rw [zup_ne (by omega)] | rw [zup_at (by omega)])); first | done | assumption, by (repeat (first | rw [zu_ne (by omega)] | rw [zu_at (by omega) (by omega)] | rw [zup_ne (by omega)] | rw [zup_at (by omega)])); first | done | assumption, by (repeat (first | rw [zu_ne (by omega)] | rw [zu_at (by omega) (by omega)] | rw [zup_ne (by omega)] | rw [zup_at (by omega)])); first | done | assumption⟩
  · exact zRt_c hr.2.1 (by (repeat (rw [zu_row (by omega)]))) (fun i h0 h1 => by (repeat (first | rw [zu_ne (by omega)] | rw [zu_at (by omega) (by omega)] | rw [zup_ne (by omega)] | rw [zup_at (by omega)])))
  · exact zRw_c hr.2.2.1 (by (repeat (rw [zu_row (by omega)]))) (fun i h0 h1 => by (repeat (first | rw [zu_ne (by omega)] | rw [zu_at (by omega) (by omega)] | rw [zup_ne (by omega)] | rw [zup_at (by omega)])))
  · exact zRh_c hr.2.2.2.1 (fun q h0 h1 => by (repeat (rw [zu_row (by omega)]))) hI.2.1.2 (by (repeat (first | rw [zu_ne (by omega)] | rw [zu_at (by omega) (by omega)] | rw [zup_ne (by omega)] | rw [zup_at (by omega)]))) (fun i h0 h1 => by (repeat (first | rw [zu_ne (by omega)] | rw [zu_at (by omega) (by omega)] | rw [zup_ne (by omega)] | rw [zup_at (by omega)])))
  · exact hr.2.2.2.2.1
  · refine zRm_one hr.2.2.2.2.2.1 hr.2.2.2.2.1 hI.2.2.1.2 (zIV_b6 hI) hp.1 hp.2 (fun o ho hne => by have := zMo_bd ho; have := zMo_ne ho hmo; constructor <;> (repeat (rw [zu_row (by omega)]))) (by (repeat (first | rw [zu_ne (by omega)] | rw [zu_at (by omega) (by omega)] | rw [zup_ne (by omega)] | rw [zup_at (by omega)]))) (fun i h0 h1 h2 => by (repeat (first | rw [zu_ne (by omega)] | rw [zu_at (by omega) (by omega)] | rw [zup_ne (by omega)] | rw [zup_at (by omega)]))) ?_
    refine ⟨⟨by (repeat (first | rw [zu_ne (by omega)] | rw [zu_at (by omega) (by omega)] | rw [zup_ne (by omega)] | rw [zup_at (by omega)])); first | done | assumption, by (repeat (first | rw [zu_ne (by omega)] | rw [zu_at (by omega) (by omega)] | rw [zup_ne (by omega)] | rw [zup_at (by omega)])); first | done | assumption, by (repeat (first | rw [zu_ne (by omega)] | rw [zu_at (by omega) (by omega)] | rw [zup_ne (by omega)] | rw [zup_at (by omega)])); first | done | assumption, by (repeat (first | rw [zu_ne (by omega)] | rw [zu_at (by omega) (by omega)] | rw [zup_ne (by omega)] | rw [zup_at (by omega)])); first | done | assumption, by (repeat (first | rw [zu_ne (by omega)] | rw [zu_at (by omega) (by omega)] | rw [zup_ne (by omega)] | rw [zup_at (by omega)])); first | done | assumption, by (repeat (first | rw [zu_ne (by omega)] | rw [zu_at (by omega) (by omega)] | rw [zup_ne (by omega)] | rw [zup_at (by omega)])); first | done | assumption, by (repeat (first | rw [zu_ne (by omega)] | rw [zu_at (by omega) (by omega)] | rw [zup_ne (by omega)] | rw [zup_at (by omega)])); first | done | assumption⟩, fun q c q0 q1 hz hc => ?_⟩
    have hc0 := hc.1
    have hc1 := hc.2
    rw [zup_same] at q1
    rw [zup_ne (by omega)] at hz
    rw [zup_ne (by omega), zu_ne (by omega)]
    exact mh q c q0 (by by_cases e : q = V (96 + 47 * p + 6) <;> first | (rw [e] at hz; omega) | omega) hz hc
  · exact zRa_c hr.2.2.2.2.2.2 (by (repeat (rw [zu_row (by omega)]))) (by (repeat (first | rw [zu_ne (by omega)] | rw [zu_at (by omega) (by omega)] | rw [zup_ne (by omega)] | rw [zup_at (by omega)]))) (fun i h0 h1 => by (repeat (first | rw [zu_ne (by omega)] | rw [zu_at (by omega) (by omega)] | rw [zup_ne (by omega)] | rw [zup_at (by omega)])))
set_option maxHeartbeats 2000000 in
theorem zR_drum1 {b zt : Int} {V : Int → Int} {M F : zMem} (hr : zRS b V M F) (hI : zIV zt V) (hz : zHz V) {p : Int} (hp : 0 ≤ p ∧ p < V 2) (hd : V (96 + 47 * p + 6) ≤ 4) (h1 : ¬ zbt (V (96 + 47 * p + 3)) (V (96 + 47 * p + 6)) = 0) {v1 v2 : Int → Int} (hv1 : ∀ q c, 0 ≤ q → q < 5 → zc8 c → v1 (8 * q + c) = if q = V (96 + 47 * p + 6) then (if zdl V (zhm V p) c < 1000 then V 4 + zdl V (zhm V p) c else -1) else M (F (b + 6) p + 1) (8 * q + c)) (hv2 : ∀ c x, zc8 c → 0 ≤ x → x < 128 → v2 (128 * c + x) = M (b + 8) (128 * c + x) + (if zdl V (zhm V p) c < 1000 ∧ x = (V 4 + zdl V (zhm V p) c) % 128 then 1 else 0)) : zRS b (zDr p V) (zu (zu (zrow (zrow M (F (b + 6) p + 1) v1) (b + 8) v2) b 8 (V 5 + 1)) (F (b + 6) p) 6 (V (96 + 47 * p + 6) + 1)) F := by
  have h0b := hI.1
  have h1b := hI.2.1
  have h2b := hI.2.2.1
  have hmo := hr.mo hp.1 (show p < 8 by omega)
  have hbd := zMo_bd hmo
  obtain ⟨⟨m0, m1, m2, m3, m4, m5, m6⟩, mh⟩ := hr.2.2.2.2.2.1 p hp.1 hp.2
  obtain ⟨c0, c1, c2, c4, c5, c7, c8, c9, c10⟩ := hr.1
  have h6b := (hI.2.2.2.2.2.2.1 p hp.1 hp.2).2.2.2.2.2.2.2.1
  obtain ⟨d1, d2, d3, d4, d5⟩ := zDr_is hI hz hp hd h1
  have eo : ∀ j, j < 96 → j ≠ 5 → zDr p V j = V j := fun j j0 j1 => d1 j j1 (by omega) (Or.inl (by omega)) (fun c hc => by have := hc.1; omega)
  have em : ∀ j, 96 ≤ j → j < 472 → (j < 96 + 47 * p ∨ 96 + 47 * p + 47 ≤ j) → zDr p V j = V j := fun j j0 j1 j2 => d1 j (by omega) (by omega) (Or.inl j1) (fun c hc => by have := hc.1; have := hc.2; omega)
  have ek : ∀ k, 0 ≤ k → k < 7 → k ≠ 6 → zDr p V (96 + 47 * p + k) = V (96 + 47 * p + k) := fun k k0 k1 k2 => d1 _ (by omega) (by omega) (Or.inl (by omega)) (fun c hc => by have := hc.1; omega)
  refine ⟨?_, ?_, ?_, ?_, hr.2.2.2.2.1, ?_, ?_⟩
  · refine ⟨?_, ?_, ?_, ?_, ?_, ?_, ?_, ?_, ?_⟩
    · rw [eo 0 (by decide) (by decide)]; (repeat (first | rw [zrow_ne (by omega)] | rw [zrow_same] | rw [zu_ne (by omega)] | rw [zu_at (by omega) (by omega)])); exact c0
    · rw [zTu_c (V := V) (fun i h0 h1 => eo i (by omega) (by omega))]; (repeat (first | rw [zrow_ne (by omega)] | rw [zrow_same] | rw [zu_ne (by omega)] | rw [zu_at (by omega) (by omega)])); exact c1
    · rw [eo 1 (by decide) (by decide)]; (repeat (first | rw [zrow_ne (by omega)] | rw [zrow_same] | rw [zu_ne (by omega)] | rw [zu_at (by omega) (by omega)])); exact c2
    · rw [eo 2 (by decide) (by decide)]; (repeat (first | rw [zrow_ne (by omega)] | rw [zrow_same] | rw [zu_ne (by omega)] | rw [zu_at (by omega) (by omega)])); exact c4
    · rw [eo 3 (by decide) (by decide)]; (repeat (first | rw [zrow_ne (by omega)] | rw [zrow_same] | rw [zu_ne (by omega)] | rw [zu_at (by omega) (by omega)])); exact c5
    · rw [eo 4 (by decide) (by decide)]; (repeat (first | rw [zrow_ne (by omega)] | rw [zrow_same] | rw [zu_ne (by omega)] | rw [zu_at (by omega) (by omega)])); exact c7
    · rw [d2]; (repeat (first | rw [zrow_ne (by omega)] | rw [zrow_same] | rw [zu_ne (by omega)] | rw [zu_at (by omega) (by omega)]))
    · rw [eo 6 (by decide) (by decide)]; (repeat (first | rw [zrow_ne (by omega)] | rw [zrow_same] | rw [zu_ne (by omega)] | rw [zu_at (by omega) (by omega)])); exact c9
    · rw [eo 7 (by decide) (by decide)]; (repeat (first | rw [zrow_ne (by omega)] | rw [zrow_same] | rw [zu_ne (by omega)] | rw [zu_at (by omega) (by omega)])); exact c10
  · exact zRt_c hr.2.1 (by (repeat (first | rw [zu_row (by omega)] | rw [zrow_ne (by omega)]))) (fun i h0 h1 => eo i (by omega) (by omega))
  · exact zRw_c hr.2.2.1 (by (repeat (first | rw [zu_row (by omega)] | rw [zrow_ne (by omega)]))) (fun i h0 h1 => eo i (by omega) (by omega))
  · exact zRh_c hr.2.2.2.1 (fun q h0 h1 => by (repeat (first | rw [zu_row (by omega)] | rw [zrow_ne (by omega)]))) hI.2.1.2 (eo 1 (by decide) (by decide)) (fun i h0 h1 => eo i (by omega) (by omega))
  · refine zRm_one hr.2.2.2.2.2.1 hr.2.2.2.2.1 hI.2.2.1.2 (zIV_b6 hI) hp.1 hp.2 (fun o ho hne => by have := zMo_bd ho; have := zMo_ne ho hmo; constructor <;> (repeat (first | rw [zu_row (by omega)] | rw [zrow_ne (by omega)]))) (eo 2 (by decide) (by decide)) em ?_
    refine ⟨⟨?_, ?_, ?_, ?_, ?_, ?_, ?_⟩, fun q c q0 q1 hz2 hc => ?_⟩
    · rw [ek 0 (by decide) (by decide) (by decide)]; (repeat (first | rw [zrow_ne (by omega)] | rw [zrow_same] | rw [zu_ne (by omega)] | rw [zu_at (by omega) (by omega)])); exact m0
    · rw [ek 1 (by decide) (by decide) (by decide)]; (repeat (first | rw [zrow_ne (by omega)] | rw [zrow_same] | rw [zu_ne (by omega)] | rw [zu_at (by omega) (by omega)])); exact m1
    · rw [ek 2 (by decide) (by decide) (by decide)]; (repeat (first | rw [zrow_ne (by omega)] | rw [zrow_same] | rw [zu_ne (by omega)] | rw [zu_at (by omega) (by omega)])); exact m2
    · rw [ek 3 (by decide) (by decide) (by decide)]; (repeat (first | rw [zrow_ne (by omega)] | rw [zrow_same] | rw [zu_ne (by omega)] | rw [zu_at (by omega) (by omega)])); exact m3
    · rw [ek 4 (by decide) (by decide) (by decide)]; (repeat (first | rw [zrow_ne (by omega)] | rw [zrow_same] | rw [zu_ne (by omega)] | rw [zu_at (by omega) (by omega)])); exact m4
    · rw [ek 5 (by decide) (by decide) (by decide)]; (repeat (first | rw [zrow_ne (by omega)] | rw [zrow_same] | rw [zu_ne (by omega)] | rw [zu_at (by omega) (by omega)])); exact m5
    · rw [d3]; (repeat (first | rw [zrow_ne (by omega)] | rw [zrow_same] | rw [zu_ne (by omega)] | rw [zu_at (by omega) (by omega)]))
    · have hc0 := hc.1
      have hc1 := hc.2
      rw [d3] at q1
      rw [ek 3 (by decide) (by decide) (by decide)] at hz2
      have ev : (zu (zu (zrow (zrow M (F (b + 6) p + 1) v1) (b + 8) v2) b 8 (V 5 + 1)) (F (b + 6) p) 6 (V (96 + 47 * p + 6) + 1)) (F (b + 6) p + 1) (8 * q + c) = v1 (8 * q + c) := by (repeat (first | rw [zrow_ne (by omega)] | rw [zrow_same] | rw [zu_ne (by omega)] | rw [zu_at (by omega) (by omega)]))
      rw [ev, hv1 q c q0 (by omega) hc]
      by_cases e : q = V (96 + 47 * p + 6)
      · rw [if_pos e, e, show 96 + 47 * p + 7 + 8 * V (96 + 47 * p + 6) + c = 96 + 47 * p + (7 + 8 * V (96 + 47 * p + 6) + c) by omega, d4 c hc]
        split <;> omega
      · rw [if_neg e, mh q c q0 (by omega) hz2 hc, d1 (96 + 47 * p + 7 + 8 * q + c) (by omega) (by omega) (Or.inl (by omega)) (fun c' hc' => by have := hc'.1; have := hc'.2; omega)]
  · intro c t hc t0 t1
    rw [eo 4 (by decide) (by decide)] at t0 t1
    rw [d5 c (t % 128) hc (by omega) (by omega), ← hr.2.2.2.2.2.2 c t hc t0 t1]
    have ev : (zu (zu (zrow (zrow M (F (b + 6) p + 1) v1) (b + 8) v2) b 8 (V 5 + 1)) (F (b + 6) p) 6 (V (96 + 47 * p + 6) + 1)) (b + 8) (128 * c + t % 128) = v2 (128 * c + t % 128) := by (repeat (first | rw [zrow_ne (by omega)] | rw [zrow_same] | rw [zu_ne (by omega)] | rw [zu_at (by omega) (by omega)]))
    rw [ev, hv2 c (t % 128) hc (by omega) (by omega)]
/-- later than any thump that was drummed nothing is heard -/
def zRz (V : Int → Int) : Prop := ∀ c t, zc8 c → V 4 + 64 ≤ t → t ≤ V 4 + 107 → V (472 + 128 * c + t % 128) = 0
theorem zTkD_f {C : Int → Int} : ∀ m : Nat, m ≤ 8 → (∀ j, j < 472 → zfold (fun c W => zup W (472 + 128 * c + (W 4 - 20 - 1) % 128) 0) m C j = C j) ∧ ∀ c x, zc8 c → 0 ≤ x → x < 128 → zfold (fun c W => zup W (472 + 128 * c + (W 4 - 20 - 1) % 128) 0) m C (472 + 128 * c + x) = if c < m ∧ x = (C 4 - 20 - 1) % 128 then 0 else C (472 + 128 * c + x)
  | 0, _ => ⟨fun j _ => rfl, fun c x hc x0 x1 => by
    have := hc.1
    rw [if_neg (by omega)]
    rfl⟩
  | m + 1, hm => by
    obtain ⟨i1, i2⟩ := zTkD_f (C := C) m (by omega)
    have hd : ∀ j, zfold (fun c W => zup W (472 + 128 * c + (W 4 - 20 - 1) % 128) 0) (m + 1) C j = zup (zfold (fun c W => zup W (472 + 128 * c + (W 4 - 20 - 1) % 128) 0) m C) (472 + 128 * (m : Int) + (zfold (fun c W => zup W (472 + 128 * c + (W 4 - 20 - 1) % 128) 0) m C 4 - 20 - 1) % 128) 0 j := fun _ => rfl
    rw [i1 4 (by decide)] at hd
    refine ⟨fun j hj => ?_, fun c x hc x0 x1 => ?_⟩
    · rw [hd, zup_ne (by omega), i1 j hj]
    · have c0 := hc.1
      have c1 := hc.2
      rw [hd]
      by_cases e : c = m ∧ x = (C 4 - 20 - 1) % 128
      · rw [zup_at (by omega), if_pos (by omega)]
      · rw [zup_ne (by omega), i2 c x hc x0 x1]
        by_cases e2 : c < m ∧ x = (C 4 - 20 - 1) % 128
        · rw [if_pos e2, if_pos (by omega)]
        · rw [if_neg e2, if_neg (by omega)]
theorem zTkD_is {V : Int → Int} : zTkD V 4 = V 4 + 1 ∧ (∀ j, j < 472 → j ≠ 4 → zTkD V j = V j) ∧ ∀ c x, zc8 c → 0 ≤ x → x < 128 → zTkD V (472 + 128 * c + x) = if x = (V 4 - 20) % 128 then 0 else V (472 + 128 * c + x) := by
  obtain ⟨a1, a2⟩ := zTkD_f (C := zup V 4 (V 4 + 1)) 8 (by omega)
  refine ⟨?_, fun j h0 h1 => ?_, fun c x hc x0 x1 => ?_⟩
  · unfold zTkD
    rw [a1 4 (by decide), zup_same]
  · unfold zTkD
    rw [a1 j h0, zup_ne h1]
  · have c0 := hc.1
    have c1 := hc.2
    unfold zTkD
    rw [a2 c x hc x0 x1, zup_same, zup_ne (by omega)]
    by_cases e : x = (V 4 - 20) % 128
    · rw [if_pos e, if_pos ⟨by omega, by omega⟩]
    · rw [if_neg e, if_neg (by omega)]
set_option maxHeartbeats 2000000 in
theorem zR_tick {b zt : Int} {V : Int → Int} {M F : zMem} (hr : zRS b V M F) (hI : zIV zt V) (hz : zRz V) {v : Int → Int} (hv : ∀ c x, zc8 c → 0 ≤ x → x < 128 → v (128 * c + x) = if x = (V 4 + 1 + 80) % 128 then 0 else M (b + 8) (128 * c + x)) : zRS b (zTkD V) (zrow (zu M b 7 (V 4 + 1)) (b + 8) v) F := by
  have h0b := hI.1
  have h1b := hI.2.1
  have h2b := hI.2.2.1
  obtain ⟨c0, c1, c2, c4, c5, c7, c8, c9, c10⟩ := hr.1
  obtain ⟨d1, d2, d3⟩ := zTkD_is (V := V)
  refine ⟨?_, ?_, ?_, ?_, hr.2.2.2.2.1, ?_, ?_⟩
  · refine ⟨?_, ?_, ?_, ?_, ?_, ?_, ?_, ?_, ?_⟩
    · rw [d2 0 (by decide) (by decide)]; (repeat (first | rw [zrow_ne (by omega)] | rw [zrow_same] | rw [zu_ne (by omega)] | rw [zu_at (by omega) (by omega)])); exact c0
    · rw [zTu_c (V := V) (fun i h0 h1 => d2 i (by omega) (by omega))]; (repeat (first | rw [zrow_ne (by omega)] | rw [zrow_same] | rw [zu_ne (by omega)] | rw [zu_at (by omega) (by omega)])); exact c1
    · rw [d2 1 (by decide) (by decide)]; (repeat (first | rw [zrow_ne (by omega)] | rw [zrow_same] | rw [zu_ne (by omega)] | rw [zu_at (by omega) (by omega)])); exact c2
    · rw [d2 2 (by decide) (by decide)]; (repeat (first | rw [zrow_ne (by omega)] | rw [zrow_same] | rw [zu_ne (by omega)] | rw [zu_at (by omega) (by omega)])); exact c4
    · rw [d2 3 (by decide) (by decide)]; (repeat (first | rw [zrow_ne (by omega)] | rw [zrow_same] | rw [zu_ne (by omega)] | rw [zu_at (by omega) (by omega)])); exact c5
    · rw [d1]; (repeat (first | rw [zrow_ne (by omega)] | rw [zrow_same] | rw [zu_ne (by omega)] | rw [zu_at (by omega) (by omega)]))
    · rw [d2 5 (by decide) (by decide)]; (repeat (first | rw [zrow_ne (by omega)] | rw [zrow_same] | rw [zu_ne (by omega)] | rw [zu_at (by omega) (by omega)])); exact c8
    · rw [d2 6 (by decide) (by decide)]; (repeat (first | rw [zrow_ne (by omega)] | rw [zrow_same] | rw [zu_ne (by omega)] | rw [zu_at (by omega) (by omega)])); exact c9
    · rw [d2 7 (by decide) (by decide)]; (repeat (first | rw [zrow_ne (by omega)] | rw [zrow_same] | rw [zu_ne (by omega)] | rw [zu_at (by omega) (by omega)])); exact c10
  · exact zRt_c hr.2.1 (by (repeat (first | rw [zu_row (by omega)] | rw [zrow_ne (by omega)]))) (fun i h0 h1 => d2 i (by omega) (by omega))
  · exact zRw_c hr.2.2.1 (by (repeat (first | rw [zu_row (by omega)] | rw [zrow_ne (by omega)]))) (fun i h0 h1 => d2 i (by omega) (by omega))
  · exact zRh_c hr.2.2.2.1 (fun q h0 h1 => by (repeat (first | rw [zu_row (by omega)] | rw [zrow_ne (by omega)]))) hI.2.1.2 (d2 1 (by decide) (by decide)) (fun i h0 h1 => d2 i (by omega) (by omega))
  · exact zRm_c hr.2.2.2.2.2.1 hr.2.2.2.2.1 hI.2.2.1.2 (zIV_b6 hI) (fun o ho => by have := zMo_bd ho; constructor <;> (repeat (first | rw [zu_row (by omega)] | rw [zrow_ne (by omega)]))) rfl (d2 2 (by decide) (by decide)) (fun i h0 h1 => d2 i (by omega) (by omega))
  · intro c t hc t0 t1
    rw [d1] at t0 t1
    rw [zrow_same, hv c (t % 128) hc (by omega) (by omega), d3 c (t % 128) hc (by omega) (by omega), if_neg (show ¬ t % 128 = (V 4 - 20) % 128 by omega)]
    by_cases e : t = V 4 + 81
    · rw [if_pos (by omega), hz c t hc (by omega) (by omega)]
    · rw [if_neg (by omega)]
      exact hr.2.2.2.2.2.2 c t hc (by omega) (by omega)
