/-! a State is copied: the parts -/
def zcA (b : Int) (V : Int → Int) (M : zMem) : Prop := zRB b V M ∧ M (b + 1) 1 = zTu V ∧ M b 2 = V 1
def zcH (b h : Int) (V : Int → Int) (M : zMem) : Prop := M (b + 9 + h) 0 = V (72 + 4 * h + 0) ∧ M (b + 9 + h) 1 = V (72 + 4 * h + 1) ∧ M (b + 9 + h) 2 = V (72 + 4 * h + 2) ∧ (0 < V (72 + 4 * h + 2) → M (b + 9 + h) 3 = V (72 + 4 * h + 3) - 1)
theorem zcA_c {b : Int} {V : Int → Int} {M M' : zMem} (h : zcA b V M) (e1 : M' (b + 1) = M (b + 1)) (e2 : M' (b + 2) = M (b + 2)) (e3 : M' (b + 3) = M (b + 3)) (e0 : M' b 2 = M b 2) : zcA b V M' := by
  obtain ⟨⟨h1, h2, h3⟩, h4, h5⟩ := h
  refine ⟨⟨by rw [e1]; exact h1, fun i i0 i1 => by rw [e2]; exact h2 i i0 i1, fun a c ha hc => by rw [e3]; exact h3 a c ha hc⟩, by rw [e1]; exact h4, by rw [e0]; exact h5⟩
theorem zcA_u {b j v : Int} {V : Int → Int} {M : zMem} (h : zcA b V M) (hj : j ≠ 2) : zcA b V (zu M b j v) := zcA_c h (zu_row (by omega)) (zu_row (by omega)) (zu_row (by omega)) (zu_ne (by omega))
theorem zcHu {b j v : Int} {V : Int → Int} {M : zMem} (h : zRh b V M) : zRh b V (zu M b j v) := fun q q0 q1 => by
  rw [zu_row (by omega)]
  exact h q q0 q1
theorem zcf_1 {b b2 : Int} {V : Int → Int} {M F : zMem} (hr : zRS b2 V M F) (hd : b + 31 ≤ b2 ∨ b2 + 31 ≤ b) : zcA b V (zu (zrow (zrow (zu (zu M (b + 1) 0 (M (b2 + 1) 0)) (b + 1) 1 (M (b2 + 1) 1)) (b + 2) (M (b2 + 2))) (b + 3) (M (b2 + 3))) b 2 (V 1)) := by
  refine ⟨⟨?_, fun i i0 i1 => ?_, fun a c ha hc => ?_⟩, ?_, ?_⟩
  · (repeat (first | rw [zu_ne (by omega)] | rw [zu_at (by omega) (by omega)] | rw [zrow_ne (by omega)] | rw [zrow_same]))
    exact hr.c0
  · (repeat (first | rw [zu_ne (by omega)] | rw [zu_at (by omega) (by omega)] | rw [zrow_ne (by omega)] | rw [zrow_same]))
    exact hr.2.1 i i0 i1
  · (repeat (first | rw [zu_ne (by omega)] | rw [zu_at (by omega) (by omega)] | rw [zrow_ne (by omega)] | rw [zrow_same]))
    exact hr.2.2.1 a c ha hc
  · (repeat (first | rw [zu_ne (by omega)] | rw [zu_at (by omega) (by omega)] | rw [zrow_ne (by omega)] | rw [zrow_same]))
    exact hr.c1
  · (repeat (first | rw [zu_ne (by omega)] | rw [zu_at (by omega) (by omega)] | rw [zrow_ne (by omega)] | rw [zrow_same]))
theorem zcA_h {b k a0 a1 a2 a3 : Int} {V : Int → Int} {M : zMem} (h : zcA b V M) (k0 : 0 ≤ k) : zcA b V (zu (zu (zu (zu M (b + 9 + k) 0 a0) (b + 9 + k) 1 a1) (b + 9 + k) 2 a2) (b + 9 + k) 3 a3) := zcA_c h (by (repeat (first | rw [zu_row (by omega)] | rw [zrow_ne (by omega)]))) (by (repeat (first | rw [zu_row (by omega)] | rw [zrow_ne (by omega)]))) (by (repeat (first | rw [zu_row (by omega)] | rw [zrow_ne (by omega)]))) (by (repeat (first | rw [zu_ne (by omega)] | rw [zu_at (by omega) (by omega)] | rw [zrow_ne (by omega)] | rw [zrow_same])))
theorem zcH_old {b h k a0 a1 a2 a3 : Int} {V : Int → Int} {M : zMem} (hh : zcH b h V M) (hne : h ≠ k) : zcH b h V (zu (zu (zu (zu M (b + 9 + k) 0 a0) (b + 9 + k) 1 a1) (b + 9 + k) 2 a2) (b + 9 + k) 3 a3) := by
  obtain ⟨h0, h1, h2, h3⟩ := hh
  exact ⟨by (repeat (first | rw [zu_ne (by omega)] | rw [zu_at (by omega) (by omega)] | rw [zrow_ne (by omega)] | rw [zrow_same])); exact h0, by (repeat (first | rw [zu_ne (by omega)] | rw [zu_at (by omega) (by omega)] | rw [zrow_ne (by omega)] | rw [zrow_same])); exact h1, by (repeat (first | rw [zu_ne (by omega)] | rw [zu_at (by omega) (by omega)] | rw [zrow_ne (by omega)] | rw [zrow_same])); exact h2, fun z => by (repeat (first | rw [zu_ne (by omega)] | rw [zu_at (by omega) (by omega)] | rw [zrow_ne (by omega)] | rw [zrow_same])); exact h3 z⟩
theorem zcH_new {b b2 k : Int} {V : Int → Int} {M F : zMem} (hr : zRS b2 V M F) (k0 : 0 ≤ k) (k1 : k < V 1) (hd : b + 31 ≤ b2 ∨ b2 + 31 ≤ b) : zcH b k V (zu (zu (zu (zu M (b + 9 + k) 0 (M (b2 + 9 + k) 0)) (b + 9 + k) 1 (M (b2 + 9 + k) 1)) (b + 9 + k) 2 (M (b2 + 9 + k) 2)) (b + 9 + k) 3 (M (b2 + 9 + k) 3)) := by
  obtain ⟨h0, h1, h2, h3⟩ := hr.2.2.2.1 k k0 k1
  exact ⟨by (repeat (first | rw [zu_ne (by omega)] | rw [zu_at (by omega) (by omega)] | rw [zrow_ne (by omega)] | rw [zrow_same])); exact h0, by (repeat (first | rw [zu_ne (by omega)] | rw [zu_at (by omega) (by omega)] | rw [zrow_ne (by omega)] | rw [zrow_same])); exact h1, by (repeat (first | rw [zu_ne (by omega)] | rw [zu_at (by omega) (by omega)] | rw [zrow_ne (by omega)] | rw [zrow_same])); exact h2, fun z => by (repeat (first | rw [zu_ne (by omega)] | rw [zu_at (by omega) (by omega)] | rw [zrow_ne (by omega)] | rw [zrow_same])); exact h3 z⟩
theorem zcA_m {b o a0 a1 a2 a3 a4 a5 a6 : Int} {V r : Int → Int} {M : zMem} (h : zcA b V M) (hbd : b + 15 ≤ o ∧ o + 1 < b + 31) : zcA b V (zrow (zu (zu (zu (zu (zu (zu (zu M o 0 a0) o 1 a1) o 2 a2) o 3 a3) o 4 a4) o 5 a5) o 6 a6) (o + 1) r) := zcA_c h (by (repeat (first | rw [zu_row (by omega)] | rw [zrow_ne (by omega)]))) (by (repeat (first | rw [zu_row (by omega)] | rw [zrow_ne (by omega)]))) (by (repeat (first | rw [zu_row (by omega)] | rw [zrow_ne (by omega)]))) (by (repeat (first | rw [zu_ne (by omega)] | rw [zu_at (by omega) (by omega)] | rw [zrow_ne (by omega)] | rw [zrow_same])))
theorem zcHm {b o a0 a1 a2 a3 a4 a5 a6 : Int} {V r : Int → Int} {M : zMem} (h : zRh b V M) (hbd : b + 15 ≤ o ∧ o + 1 < b + 31) (h1 : V 1 ≤ 6) : zRh b V (zrow (zu (zu (zu (zu (zu (zu (zu M o 0 a0) o 1 a1) o 2 a2) o 3 a3) o 4 a4) o 5 a5) o 6 a6) (o + 1) r) := fun q q0 q1 => by
  (repeat (first | rw [zu_row (by omega)] | rw [zrow_ne (by omega)]))
  exact h q q0 q1
theorem zcm_4 {b o a0 a1 a2 a3 a4 a5 a6 v : Int} {r : Int → Int} {M : zMem} (h : M b 4 = v) (hbd : b + 15 ≤ o ∧ o + 1 < b + 31) : (zrow (zu (zu (zu (zu (zu (zu (zu M o 0 a0) o 1 a1) o 2 a2) o 3 a3) o 4 a4) o 5 a5) o 6 a6) (o + 1) r) b 4 = v := by
  (repeat (first | rw [zu_ne (by omega)] | rw [zu_at (by omega) (by omega)] | rw [zrow_ne (by omega)] | rw [zrow_same]))
  exact h
theorem zcm_old {b q o o2 a0 a1 a2 a3 a4 a5 a6 : Int} {V r : Int → Int} {M : zMem} (h : zRm1 b q o2 V M) (hq : zMo b o2) (ho : zMo b o) (hne : o2 ≠ o) : zRm1 b q o2 V (zrow (zu (zu (zu (zu (zu (zu (zu M o 0 a0) o 1 a1) o 2 a2) o 3 a3) o 4 a4) o 5 a5) o 6 a6) (o + 1) r) := by
  have h1 := zMo_ne hq ho
  have e1 : (zrow (zu (zu (zu (zu (zu (zu (zu M o 0 a0) o 1 a1) o 2 a2) o 3 a3) o 4 a4) o 5 a5) o 6 a6) (o + 1) r) o2 = M o2 := by (repeat (first | rw [zu_row (by omega)] | rw [zrow_ne (by omega)]))
  have e2 : (zrow (zu (zu (zu (zu (zu (zu (zu M o 0 a0) o 1 a1) o 2 a2) o 3 a3) o 4 a4) o 5 a5) o 6 a6) (o + 1) r) (o2 + 1) = M (o2 + 1) := by (repeat (first | rw [zu_row (by omega)] | rw [zrow_ne (by omega)]))
  unfold zRm1
  rw [e1, e2]
  exact h
theorem zcm_new {b b2 k o o2 : Int} {V : Int → Int} {M : zMem} (h : zRm1 b2 k o2 V M) (hbd : b + 15 ≤ o ∧ o + 1 < b + 31) (hbd2 : b2 + 15 ≤ o2 ∧ o2 + 1 < b2 + 31) (hd : b + 31 ≤ b2 ∨ b2 + 31 ≤ b) : zRm1 b k o V (zrow (zu (zu (zu (zu (zu (zu (zu M o 0 (M o2 0)) o 1 (M o2 1)) o 2 (M o2 2)) o 3 (M o2 3)) o 4 (M o2 4)) o 5 (M o2 5)) o 6 (M o2 6)) (o + 1) (M (o2 + 1))) := by
  obtain ⟨⟨m0, m1, m2, m3, m4, m5, m6⟩, mh⟩ := h
  exact ⟨⟨by (repeat (first | rw [zu_ne (by omega)] | rw [zu_at (by omega) (by omega)] | rw [zrow_ne (by omega)] | rw [zrow_same])); exact m0, by (repeat (first | rw [zu_ne (by omega)] | rw [zu_at (by omega) (by omega)] | rw [zrow_ne (by omega)] | rw [zrow_same])); exact m1, by (repeat (first | rw [zu_ne (by omega)] | rw [zu_at (by omega) (by omega)] | rw [zrow_ne (by omega)] | rw [zrow_same])); exact m2, by (repeat (first | rw [zu_ne (by omega)] | rw [zu_at (by omega) (by omega)] | rw [zrow_ne (by omega)] | rw [zrow_same])); exact m3, by (repeat (first | rw [zu_ne (by omega)] | rw [zu_at (by omega) (by omega)] | rw [zrow_ne (by omega)] | rw [zrow_same])); exact m4, by (repeat (first | rw [zu_ne (by omega)] | rw [zu_at (by omega) (by omega)] | rw [zrow_ne (by omega)] | rw [zrow_same])); exact m5, by (repeat (first | rw [zu_ne (by omega)] | rw [zu_at (by omega) (by omega)] | rw [zrow_ne (by omega)] | rw [zrow_same])); exact m6⟩, fun q c q0 q1 hz hc => by (repeat (first | rw [zu_ne (by omega)] | rw [zu_at (by omega) (by omega)] | rw [zrow_ne (by omega)] | rw [zrow_same])); exact mh q c q0 q1 hz hc⟩
set_option maxHeartbeats 1000000 in
theorem zcf_end {b b2 : Int} {V : Int → Int} {M F : zMem} (hA : zcA b V M) (hH : zRh b V M) (hp : zRp b F) (hm : ∀ q, 0 ≤ q → q < V 2 → zRm1 b q (F (b + 6) q) V M) (hs : zRS b2 V M F) (h4 : M b 4 = V 2) (h1 : V 1 ≤ 6) (h2 : V 2 ≤ 8) (hd : b + 31 ≤ b2 ∨ b2 + 31 ≤ b) : zRS b V (zu (zu (zu (zu (zrow (zu M b 5 (V 3)) (b + 8) ((zu M b 5 (V 3)) (b2 + 8))) b 7 (V 4)) b 8 (V 5)) b 9 (V 6)) b 10 (V 7)) F := by
  obtain ⟨⟨c0, ht, hw⟩, c1, c2⟩ := hA
  refine ⟨⟨?_, ?_, ?_, ?_, ?_, ?_, ?_, ?_, ?_⟩, fun i i0 i1 => ?_, fun a c ha hc => ?_, fun q q0 q1 => ?_, hp, fun q q0 q1 => ?_, fun c t hc t0 t1 => ?_⟩
  · (repeat (first | rw [zu_ne (by omega)] | rw [zu_at (by omega) (by omega)] | rw [zrow_ne (by omega)] | rw [zrow_same])); exact c0
  · (repeat (first | rw [zu_ne (by omega)] | rw [zu_at (by omega) (by omega)] | rw [zrow_ne (by omega)] | rw [zrow_same])); exact c1
  · (repeat (first | rw [zu_ne (by omega)] | rw [zu_at (by omega) (by omega)] | rw [zrow_ne (by omega)] | rw [zrow_same])); exact c2
  · (repeat (first | rw [zu_ne (by omega)] | rw [zu_at (by omega) (by omega)] | rw [zrow_ne (by omega)] | rw [zrow_same])); exact h4
  · (repeat (first | rw [zu_ne (by omega)] | rw [zu_at (by omega) (by omega)] | rw [zrow_ne (by omega)] | rw [zrow_same]))
  · (repeat (first | rw [zu_ne (by omega)] | rw [zu_at (by omega) (by omega)] | rw [zrow_ne (by omega)] | rw [zrow_same]))
  · (repeat (first | rw [zu_ne (by omega)] | rw [zu_at (by omega) (by omega)] | rw [zrow_ne (by omega)] | rw [zrow_same]))
  · (repeat (first | rw [zu_ne (by omega)] | rw [zu_at (by omega) (by omega)] | rw [zrow_ne (by omega)] | rw [zrow_same]))
  · (repeat (first | rw [zu_ne (by omega)] | rw [zu_at (by omega) (by omega)] | rw [zrow_ne (by omega)] | rw [zrow_same]))
  · (repeat (first | rw [zu_ne (by omega)] | rw [zu_at (by omega) (by omega)] | rw [zrow_ne (by omega)] | rw [zrow_same])); exact ht i i0 i1
  · (repeat (first | rw [zu_ne (by omega)] | rw [zu_at (by omega) (by omega)] | rw [zrow_ne (by omega)] | rw [zrow_same])); exact hw a c ha hc
  · (repeat (first | rw [zu_row (by omega)] | rw [zrow_ne (by omega)])); exact hH q q0 q1
  · have hbd := zMo_bd (hp.1 q ⟨q0, by omega⟩)
    have e1 : (zu (zu (zu (zu (zrow (zu M b 5 (V 3)) (b + 8) ((zu M b 5 (V 3)) (b2 + 8))) b 7 (V 4)) b 8 (V 5)) b 9 (V 6)) b 10 (V 7)) (F (b + 6) q) = M (F (b + 6) q) := by (repeat (first | rw [zu_row (by omega)] | rw [zrow_ne (by omega)]))
    have e2 : (zu (zu (zu (zu (zrow (zu M b 5 (V 3)) (b + 8) ((zu M b 5 (V 3)) (b2 + 8))) b 7 (V 4)) b 8 (V 5)) b 9 (V 6)) b 10 (V 7)) (F (b + 6) q + 1) = M (F (b + 6) q + 1) := by (repeat (first | rw [zu_row (by omega)] | rw [zrow_ne (by omega)]))
    unfold zRm1
    rw [e1, e2]
    exact hm q q0 q1
  · have e3 : (zu (zu (zu (zu (zrow (zu M b 5 (V 3)) (b + 8) ((zu M b 5 (V 3)) (b2 + 8))) b 7 (V 4)) b 8 (V 5)) b 9 (V 6)) b 10 (V 7)) (b + 8) = M (b2 + 8) := by
      rw [zu_row (by omega), zu_row (by omega), zu_row (by omega), zu_row (by omega), zrow_same, zu_row (by omega)]
    rw [e3]
    exact hs.2.2.2.2.2.2 c t hc t0 t1
theorem zcf_out {b b2 : Int} {V : Int → Int} {M M0 F : zMem} (h : zOut b M0 F M F) (hb : 1 ≤ b) : zOut b M0 F (zu (zu (zu (zu (zrow (zu M b 5 (V 3)) (b + 8) ((zu M b 5 (V 3)) (b2 + 8))) b 7 (V 4)) b 8 (V 5)) b 9 (V 6)) b 10 (V 7)) F := zOut_u (zOut_u (zOut_u (zOut_u (zOut_w (zOut_u h (by omega)) (by omega)) (by omega)) (by omega)) (by omega)) (by omega)
