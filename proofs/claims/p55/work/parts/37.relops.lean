/-! how the changes keep the relation -/
theorem zfold_c {σ : Type} {f g : Int → σ → σ} : ∀ (n : Nat) (s : σ), (∀ k s, 0 ≤ k → k < (n : Int) → f k s = g k s) → zfold f n s = zfold g n s
  | 0, _, _ => rfl
  | n + 1, s, h => by
    show f n (zfold f n s) = g n (zfold g n s)
    rw [zfold_c n s (fun k s h0 h1 => h k s h0 (by omega)), h n _ (by omega) (by omega)]
theorem zBF_c {V V' : Int → Int} (h : ∀ i, 8 ≤ i → i < 72 → V' i = V i) (a : Int) : zBF V' a = zBF V a := by
  unfold zBF
  refine zfold_c 8 _ (fun _ q _ _ => ?_)
  unfold zrxA
  refine zfold_c 8 _ (fun x q x0 x1 => ?_)
  unfold zrxB
  refine zfold_c 8 _ (fun y q y0 y1 => ?_)
  unfold zrx
  rw [h (8 + 8 * x + y) (by omega) (by omega)]
theorem zTu_c {V V' : Int → Int} (h : ∀ i, 8 ≤ i → i < 72 → V' i = V i) : zTu V' = zTu V := by
  unfold zTu
  refine zfold_c 8 _ (fun x q x0 x1 => zfold_c _ _ (fun y q y0 y1 => ?_))
  rw [h (8 + 8 * x + y) (by omega) (by omega)]
theorem zRt_c {b : Int} {V V' : Int → Int} {M M' : zMem} (h : zRt b V M) (hM : M' (b + 2) = M (b + 2)) (hV : ∀ i, 8 ≤ i → i < 72 → V' i = V i) : zRt b V' M' := fun i h0 h1 => by
  rw [hM, hV (8 + i) (by omega) (by omega)]
  exact h i h0 h1
theorem zRw_c {b : Int} {V V' : Int → Int} {M M' : zMem} (h : zRw b V M) (hM : M' (b + 3) = M (b + 3)) (hV : ∀ i, 8 ≤ i → i < 72 → V' i = V i) : zRw b V' M' := fun a c h0 h1 => by
  rw [hM, zBF_c hV a]
  exact h a c h0 h1
theorem zRh_c {b : Int} {V V' : Int → Int} {M M' : zMem} (h : zRh b V M) (hM : ∀ q, 0 ≤ q → q < V 1 → M' (b + 9 + q) = M (b + 9 + q)) (h1 : V 1 ≤ 6) (hV1 : V' 1 = V 1) (hV : ∀ i, 72 ≤ i → i < 96 → V' i = V i) : zRh b V' M' := fun q h0 h2 => by
  rw [hV1] at h2
  rw [hM q h0 h2, hV _ (by omega) (by omega), hV _ (by omega) (by omega), hV _ (by omega) (by omega), hV _ (by omega) (by omega)]
  exact h q h0 h2
theorem zRm1_c {b p o : Int} {V V' : Int → Int} {M M' : zMem} (h : zRm1 b p o V M) (h0 : 0 ≤ p) (h1 : p < 8) (hM : M' o = M o ∧ M' (o + 1) = M (o + 1)) (h6 : V (96 + 47 * p + 6) ≤ 5) (hV : ∀ k, 0 ≤ k → k < 47 → V' (96 + 47 * p + k) = V (96 + 47 * p + k)) : zRm1 b p o V' M' := by
  unfold zRm1
  rw [hM.1, hM.2, hV 0 (by omega) (by omega), hV 1 (by omega) (by omega), hV 2 (by omega) (by omega), hV 3 (by omega) (by omega), hV 4 (by omega) (by omega), hV 5 (by omega) (by omega), hV 6 (by omega) (by omega)]
  refine ⟨h.1, fun q c q0 q1 hz hc => ?_⟩
  have e := hV (7 + 8 * q + c) (by have := hc.1; omega) (by have := hc.2; omega)
  rw [show 96 + 47 * p + 7 + 8 * q + c = 96 + 47 * p + (7 + 8 * q + c) by omega, e]
  have := h.2 q c q0 q1 hz hc
  rw [show 96 + 47 * p + 7 + 8 * q + c = 96 + 47 * p + (7 + 8 * q + c) by omega] at this
  exact this
theorem zRm_c {b : Int} {V V' : Int → Int} {M M' F F' : zMem} (h : zRm b V M F) (hp : zRp b F) (h2 : V 2 ≤ 8) (h6 : ∀ p, 0 ≤ p → p < V 2 → V (96 + 47 * p + 6) ≤ 5) (hM : ∀ o, zMo b o → M' o = M o ∧ M' (o + 1) = M (o + 1)) (hF : F' (b + 6) = F (b + 6)) (hV2 : V' 2 = V 2) (hV : ∀ i, 96 ≤ i → i < 472 → V' i = V i) : zRm b V' M' F' := fun p h0 h1 => by
  rw [hV2] at h1
  rw [hF]
  exact zRm1_c (h p h0 h1) h0 (by omega) (hM _ (hp.1 p ⟨h0, by omega⟩)) (h6 p h0 h1) (fun k k0 k1 => hV _ (by omega) (by omega))
theorem zRa_c {b : Int} {V V' : Int → Int} {M M' : zMem} (h : zRa b V M) (hM : M' (b + 8) = M (b + 8)) (hV4 : V' 4 = V 4) (hV : ∀ i, 472 ≤ i → i < 1496 → V' i = V i) : zRa b V' M' := fun c t hc t0 t1 => by
  have h0 := hc.1
  have h1 := hc.2
  rw [hV4] at t0 t1
  rw [hM, hV _ (by omega) (by omega)]
  exact h c t hc t0 t1
theorem zIV_b6 {t : Int} {V : Int → Int} (h : zIV t V) : ∀ p, 0 ≤ p → p < V 2 → V (96 + 47 * p + 6) ≤ 5 := fun p h0 h1 => (h.2.2.2.2.2.2.1 p h0 h1).2.2.2.2.2.2.2.1.2
set_option maxHeartbeats 1000000 in
theorem zR_dig {b zt : Int} {V : Int → Int} {M F : zMem} (hr : zRS b V M F) (hI : zIV zt V) (h8 : V 0 < 8) : zRS b (zup V 0 (V 0 + 1)) (zu M (b + 1) 0 (V 0 + 1)) F := by
  have h0b := hI.1
  have h1b := hI.2.1
  have h2b := hI.2.2.1
  have hc := hr.1
  obtain ⟨c0, c1, c2, c4, c5, c7, c8, c9, c10⟩ := hc
  refine ⟨?_, ?_, ?_, ?_, ?_, ?_, ?_⟩
  · exact ⟨by (repeat (first | rw [zu_ne (by omega)] | rw [zu_at (by omega) (by omega)] | rw [zup_ne (by omega)] | rw [zup_at (by omega)])); first | done | assumption, by rw [zTu_c (V := V) (fun i h0 h1 => by (repeat (first | rw [zu_ne (by omega)] | rw [zu_at (by omega) (by omega)] | rw [zup_ne (by omega)] | rw [zup_at (by omega)])))]; (repeat (first | rw [zu_ne (by omega)] | rw [zu_at (by omega) (by omega)] | rw [zup_ne (by omega)] | rw [zup_at (by omega)])); first | done | assumption, by (repeat (first | rw [zu_ne (by omega)] | rw [zu_at (by omega) (by omega)] | rw [zup_ne (by omega)] | rw [zup_at (by omega)])); first | done | assumption, by (repeat (first | rw [zu_ne (by omega)] | rw [zu_at (by omega) (by omega)] | rw [zup_ne (by omega)] | rw [zup_at (by omega)])); first | done | assumption, by (repeat (first | rw [zu_ne (by omega)] | rw [zu_at (by omega) (by omega)] | rw [zup_ne (by omega)] | rw [zup_at (by omega)])); first | done | assumption, by (repeat (first | rw [zu_ne (by omega)] | rw [zu_at (by omega) (by omega)] | rw [zup_ne (by omega)] | rw [zup_at (by omega)])); first | done | assumption, by (repeat (first | rw [zu_ne (by omega)] | rw [zu_at (by omega) (by omega)] | rw [zup_ne (by omega)] | rw [zup_at (by omega)])); first | done | assumption, by (repeat (first | rw [zu_ne (by omega)] | rw [zu_at (by omega) (by omega)] | rw [zup_ne (by omega)] | rw [zup_at (by omega)])); first | done | assumption, by (repeat (first | rw [zu_ne (by omega)] | rw [zu_at (by omega) (by omega)] | rw [zup_ne (by omega)] | rw [zup_at (by omega)])); first | done | assumption⟩
  · exact zRt_c hr.2.1 (by (repeat (rw [zu_row (by omega)]))) (fun i h0 h1 => by (repeat (first | rw [zu_ne (by omega)] | rw [zu_at (by omega) (by omega)] | rw [zup_ne (by omega)] | rw [zup_at (by omega)])))
  · exact zRw_c hr.2.2.1 (by (repeat (rw [zu_row (by omega)]))) (fun i h0 h1 => by (repeat (first | rw [zu_ne (by omega)] | rw [zu_at (by omega) (by omega)] | rw [zup_ne (by omega)] | rw [zup_at (by omega)])))
  · exact zRh_c hr.2.2.2.1 (fun q h0 h1 => by (repeat (rw [zu_row (by omega)]))) hI.2.1.2 (by (repeat (first | rw [zu_ne (by omega)] | rw [zu_at (by omega) (by omega)] | rw [zup_ne (by omega)] | rw [zup_at (by omega)]))) (fun i h0 h1 => by (repeat (first | rw [zu_ne (by omega)] | rw [zu_at (by omega) (by omega)] | rw [zup_ne (by omega)] | rw [zup_at (by omega)])))
  · exact hr.2.2.2.2.1
  · exact zRm_c hr.2.2.2.2.2.1 hr.2.2.2.2.1 hI.2.2.1.2 (zIV_b6 hI) (fun o ho => by have := zMo_bd ho; constructor <;> (repeat (rw [zu_row (by omega)]))) rfl (by (repeat (first | rw [zu_ne (by omega)] | rw [zu_at (by omega) (by omega)] | rw [zup_ne (by omega)] | rw [zup_at (by omega)]))) (fun i h0 h1 => by (repeat (first | rw [zu_ne (by omega)] | rw [zu_at (by omega) (by omega)] | rw [zup_ne (by omega)] | rw [zup_at (by omega)])))
  · exact zRa_c hr.2.2.2.2.2.2 (by (repeat (rw [zu_row (by omega)]))) (by (repeat (first | rw [zu_ne (by omega)] | rw [zu_at (by omega) (by omega)] | rw [zup_ne (by omega)] | rw [zup_at (by omega)]))) (fun i h0 h1 => by (repeat (first | rw [zu_ne (by omega)] | rw [zu_at (by omega) (by omega)] | rw [zup_ne (by omega)] | rw [zup_at (by omega)])))
set_option maxHeartbeats 1000000 in
theorem zR_settle {b zt : Int} {V : Int → Int} {M F : zMem} (hr : zRS b V M F) (hI : zIV zt V) {c : Int} (h6 : V 1 < 6) : zRS b (zup (zup (zup (zup (zup V (72 + 4 * V 1) c) (72 + 4 * V 1 + 1) 1) (72 + 4 * V 1 + 2) 0) (72 + 4 * V 1 + 3) 0) 1 (V 1 + 1)) (zu (zu (zu (zu M (b + 9 + V 1) 0 c) (b + 9 + V 1) 1 1) (b + 9 + V 1) 2 0) b 2 (V 1 + 1)) F := by
  have h0b := hI.1
  have h1b := hI.2.1
  have h2b := hI.2.2.1
  have hc := hr.1
  obtain ⟨c0, c1, c2, c4, c5, c7, c8, c9, c10⟩ := hc
  refine ⟨?_, ?_, ?_, ?_, ?_, ?_, ?_⟩
  · exact ⟨by (repeat (first | rw [zu_ne (by omega)] | rw [zu_at (by omega) (by omega)] | rw [zup_ne (by omega)] | rw [zup_at (by omega)])); first | done | assumption, by rw [zTu_c (V := V) (fun i h0 h1 => by (repeat (first | rw [zu_ne (by omega)] | rw [zu_at (by omega) (by omega)] | rw [zup_ne (by omega)] | rw [zup_at (by omega)])))]; (repeat (first | rw [zu_ne (by omega)] | rw [zu_at (by omega) (by omega)] | rw [zup_ne (by omega)] | rw [zup_at (by omega)])); first | done | assumption, by (repeat (first | rw [zu_ne (by omega)] | rw [zu_at (by omega) (by omega)] | rw [zup_ne (by omega)] | rw [zup_at (by omega)])); first | done | assumption, by (repeat (first | rw [zu_ne (by omega)] | rw [zu_at (by omega) (by omega)] | rw [zup_ne (by omega)] | rw [zup_at (by omega)])); first | done | assumption, by (repeat (first | rw [zu_ne (by omega)] | rw [zu_at (by omega) (by omega)] | rw [zup_ne (by omega)] | rw [zup_at (by omega)])); first | done | assumption, by (repeat (first | rw [zu_ne (by omega)] | rw [zu_at (by omega) (by omega)] | rw [zup_ne (by omega)] | rw [zup_at (by omega)])); first | done | assumption, by (repeat (first | rw [zu_ne (by omega)] | rw [zu_at (by omega) (by omega)] | rw [zup_ne (by omega)] | rw [zup_at (by omega)])); first | done | assumption, by (repeat (first | rw [zu_ne (by omega)] | rw [zu_at (by omega) (by omega)] | rw [zup_ne (by omega)] | rw [zup_at (by omega)])); first | done | assumption, by (repeat (first | rw [zu_ne (by omega)] | rw [zu_at (by omega) (by omega)] | rw [zup_ne (by omega)] | rw [zup_at (by omega)])); first | done | assumption⟩
  · exact zRt_c hr.2.1 (by (repeat (rw [zu_row (by omega)]))) (fun i h0 h1 => by (repeat (first | rw [zu_ne (by omega)] | rw [zu_at (by omega) (by omega)] | rw [zup_ne (by omega)] | rw [zup_at (by omega)])))
  · exact zRw_c hr.2.2.1 (by (repeat (rw [zu_row (by omega)]))) (fun i h0 h1 => by (repeat (first | rw [zu_ne (by omega)] | rw [zu_at (by omega) (by omega)] | rw [zup_ne (by omega)] | rw [zup_at (by omega)])))
  · intro q h0 h1
    have h1' : q < V 1 + 1 := by have e := h1; rw [zup_same] at e; exact e
    by_cases e : q = V 1
    · subst e
      exact ⟨by (repeat (first | rw [zu_ne (by omega)] | rw [zu_at (by omega) (by omega)] | rw [zup_ne (by omega)] | rw [zup_at (by omega)])), by (repeat (first | rw [zu_ne (by omega)] | rw [zu_at (by omega) (by omega)] | rw [zup_ne (by omega)] | rw [zup_at (by omega)])), by (repeat (first | rw [zu_ne (by omega)] | rw [zu_at (by omega) (by omega)] | rw [zup_ne (by omega)] | rw [zup_at (by omega)])), fun z => by exfalso; revert z; rw [zup_ne (by omega), zup_ne (by omega), zup_at (by omega)]; intro z; omega⟩
    · obtain ⟨a0, a1, a2, a3⟩ := hr.2.2.2.1 q h0 (by omega)
      exact ⟨by (repeat (first | rw [zu_ne (by omega)] | rw [zu_at (by omega) (by omega)] | rw [zup_ne (by omega)] | rw [zup_at (by omega)])); exact a0, by (repeat (first | rw [zu_ne (by omega)] | rw [zu_at (by omega) (by omega)] | rw [zup_ne (by omega)] | rw [zup_at (by omega)])); exact a1, by (repeat (first | rw [zu_ne (by omega)] | rw [zu_at (by omega) (by omega)] | rw [zup_ne (by omega)] | rw [zup_at (by omega)])); exact a2, fun z => by
        have z2 : 0 < V (72 + 4 * q + 2) := by revert z; (repeat (first | rw [zu_ne (by omega)] | rw [zu_at (by omega) (by omega)] | rw [zup_ne (by omega)] | rw [zup_at (by omega)])); exact id
        (repeat (first | rw [zu_ne (by omega)] | rw [zu_at (by omega) (by omega)] | rw [zup_ne (by omega)] | rw [zup_at (by omega)]))
        exact a3 z2⟩
  · exact hr.2.2.2.2.1
  · exact zRm_c hr.2.2.2.2.2.1 hr.2.2.2.2.1 hI.2.2.1.2 (zIV_b6 hI) (fun o ho => by have := zMo_bd ho; constructor <;> (repeat (rw [zu_row (by omega)]))) rfl (by (repeat (first | rw [zu_ne (by omega)] | rw [zu_at (by omega) (by omega)] | rw [zup_ne (by omega)] | rw [zup_at (by omega)]))) (fun i h0 h1 => by (repeat (first | rw [zu_ne (by omega)] | rw [zu_at (by omega) (by omega)] | rw [zup_ne (by omega)] | rw [zup_at (by omega)])))
  · exact zRa_c hr.2.2.2.2.2.2 (by (repeat (rw [zu_row (by omega)]))) (by (repeat (first | rw [zu_ne (by omega)] | rw [zu_at (by omega) (by omega)] | rw [zup_ne (by omega)] | rw [zup_at (by omega)]))) (fun i h0 h1 => by (repeat (first | rw [zu_ne (by omega)] | rw [zu_at (by omega) (by omega)] | rw [zup_ne (by omega)] | rw [zup_at (by omega)])))
set_option maxHeartbeats 1000000 in
theorem zR_go {b zt : Int} {V : Int → Int} {M F : zMem} (hr : zRS b V M F) (hI : zIV zt V) {h c : Int} (hh : 0 ≤ h ∧ h < V 1) : zRS b (zup V (72 + 4 * h) c) (zu M (b + 9 + h) 0 c) F := by
  have h0b := hI.1
  have h1b := hI.2.1
  have h2b := hI.2.2.1
  have hc := hr.1
  obtain ⟨c0, c1, c2, c4, c5, c7, c8, c9, c10⟩ := hc
  refine ⟨?_, ?_, ?_, ?_, ?_, ?_, ?_⟩
  · exact ⟨by (repeat (first | rw [zu_ne (by omega)] | rw [zu_at (by omega) (by omega)] | rw [zup_ne (by omega)] | rw [zup_at (by omega)])); first | done | assumption, by rw [zTu_c (V := V) (fun i h0 h1 => by (repeat (first | rw [zu_ne (by omega)] | rw [zu_at (by omega) (by omega)] | rw [zup_ne (by omega)] | rw [zup_at (by omega)])))]; (repeat (first | rw [zu_ne (by omega)] | rw [zu_at (by omega) (by omega)] | rw [zup_ne (by omega)] | rw [zup_at (by omega)])); first | done | assumption, by (repeat (first | rw [zu_ne (by omega)] | rw [zu_at (by omega) (by omega)] | rw [zup_ne (by omega)] | rw [zup_at (by omega)])); first | done | assumption, by (repeat (first | rw [zu_ne (by omega)] | rw [zu_at (by omega) (by omega)] | rw [zup_ne (by omega)] | rw [zup_at (by omega)])); first | done | assumption, by (repeat (first | rw [zu_ne (by omega)] | rw [zu_at (by omega) (by omega)] | rw [zup_ne (by omega)] | rw [zup_at (by omega)])); first | done | assumption, by (repeat (first | rw [zu_ne (by omega)] | rw [zu_at (by omega) (by omega)] | rw [zup_ne (by omega)] | rw [zup_at (by omega)])); first | done | assumption, by (repeat (first | rw [zu_ne (by omega)] | rw [zu_at (by omega) (by omega)] | rw [zup_ne (by omega)] | rw [zup_at (by omega)])); first | done | assumption, by (repeat (first | rw [zu_ne (by omega)] | rw [zu_at (by omega) (by omega)] | rw [zup_ne (by omega)] | rw [zup_at (by omega)])); first | done | assumption, by (repeat (first | rw [zu_ne (by omega)] | rw [zu_at (by omega) (by omega)] | rw [zup_ne (by omega)] | rw [zup_at (by omega)])); first | done | assumption⟩
  · exact zRt_c hr.2.1 (by (repeat (rw [zu_row (by omega)]))) (fun i h0 h1 => by (repeat (first | rw [zu_ne (by omega)] | rw [zu_at (by omega) (by omega)] | rw [zup_ne (by omega)] | rw [zup_at (by omega)])))
  · exact zRw_c hr.2.2.1 (by (repeat (rw [zu_row (by omega)]))) (fun i h0 h1 => by (repeat (first | rw [zu_ne (by omega)] | rw [zu_at (by omega) (by omega)] | rw [zup_ne (by omega)] | rw [zup_at (by omega)])))
  · intro q h0 h1
    have h1' : q < V 1 := by have e := h1; rw [zup_ne (by omega)] at e; exact e
    obtain ⟨a0, a1, a2, a3⟩ := hr.2.2.2.1 q h0 h1'
    by_cases e : q = h
    · subst e
      exact ⟨by (repeat (first | rw [zu_ne (by omega)] | rw [zu_at (by omega) (by omega)] | rw [zup_ne (by omega)] | rw [zup_at (by omega)])), by (repeat (first | rw [zu_ne (by omega)] | rw [zu_at (by omega) (by omega)] | rw [zup_ne (by omega)] | rw [zup_at (by omega)])); exact a1, by (repeat (first | rw [zu_ne (by omega)] | rw [zu_at (by omega) (by omega)] | rw [zup_ne (by omega)] | rw [zup_at (by omega)])); exact a2, fun z => by
        have z2 : 0 < V (72 + 4 * q + 2) := by revert z; (repeat (first | rw [zu_ne (by omega)] | rw [zu_at (by omega) (by omega)] | rw [zup_ne (by omega)] | rw [zup_at (by omega)])); exact id
        (repeat (first | rw [zu_ne (by omega)] | rw [zu_at (by omega) (by omega)] | rw [zup_ne (by omega)] | rw [zup_at (by omega)]))
        exact a3 z2⟩
    · exact ⟨by (repeat (first | rw [zu_ne (by omega)] | rw [zu_at (by omega) (by omega)] | rw [zup_ne (by omega)] | rw [zup_at (by omega)])); exact a0, by (repeat (first | rw [zu_ne (by omega)] | rw [zu_at (by omega) (by omega)] | rw [zup_ne (by omega)] | rw [zup_at (by omega)])); exact a1, by (repeat (first | rw [zu_ne (by omega)] | rw [zu_at (by omega) (by omega)] | rw [zup_ne (by omega)] | rw [zup_at (by omega)])); exact a2, fun z => by
        have z2 : 0 < V (72 + 4 * q + 2) := by revert z; (repeat (first | rw [zu_ne (by omega)] | rw [zu_at (by omega) (by omega)] | rw [zup_ne (by omega)] | rw [zup_at (by omega)])); exact id
        (repeat (first | rw [zu_ne (by omega)] | rw [zu_at (by omega) (by omega)] | rw [zup_ne (by omega)] | rw [zup_at (by omega)]))
        exact a3 z2⟩
  · exact hr.2.2.2.2.1
  · exact zRm_c hr.2.2.2.2.2.1 hr.2.2.2.2.1 hI.2.2.1.2 (zIV_b6 hI) (fun o ho => by have := zMo_bd ho; constructor <;> (repeat (rw [zu_row (by omega)]))) rfl (by (repeat (first | rw [zu_ne (by omega)] | rw [zu_at (by omega) (by omega)] | rw [zup_ne (by omega)] | rw [zup_at (by omega)]))) (fun i h0 h1 => by (repeat (first | rw [zu_ne (by omega)] | rw [zu_at (by omega) (by omega)] | rw [zup_ne (by omega)] | rw [zup_at (by omega)])))
  · exact zRa_c hr.2.2.2.2.2.2 (by (repeat (rw [zu_row (by omega)]))) (by (repeat (first | rw [zu_ne (by omega)] | rw [zu_at (by omega) (by omega)] | rw [zup_ne (by omega)] | rw [zup_at (by omega)]))) (fun i h0 h1 => by (repeat (first | rw [zu_ne (by omega)] | rw [zu_at (by omega) (by omega)] | rw [zup_ne (by omega)] | rw [zup_at (by omega)])))
set_option maxHeartbeats 1000000 in
theorem zR_listen {b zt : Int} {V : Int → Int} {M F : zMem} (hr : zRS b V M F) (hI : zIV zt V) {h v : Int} (hh : 0 ≤ h ∧ h < V 1) : zRS b (zup V (72 + 4 * h + 1) v) (zu M (b + 9 + h) 1 v) F := by
  have h0b := hI.1
  have h1b := hI.2.1
  have h2b := hI.2.2.1
  have hc := hr.1
  obtain ⟨c0, c1, c2, c4, c5, c7, c8, c9, c10⟩ := hc
  refine ⟨?_, ?_, ?_, ?_, ?_, ?_, ?_⟩
  · exact ⟨by (repeat (first | rw [zu_ne (by omega)] | rw [zu_at (by omega) (by omega)] | rw [zup_ne (by omega)] | rw [zup_at (by omega)])); first | done | assumption, by rw [zTu_c (V := V) (fun i h0 h1 => by (repeat (first | rw [zu_ne (by omega)] | rw [zu_at (by omega) (by omega)] | rw [zup_ne (by omega)] | rw [zup_at (by omega)])))]; (repeat (first | rw [zu_ne (by omega)] | rw [zu_at (by omega) (by omega)] | rw [zup_ne (by omega)] | rw [zup_at (by omega)])); first | done | assumption, by (repeat (first | rw [zu_ne (by omega)] | rw [zu_at (by omega) (by omega)] | rw [zup_ne (by omega)] | rw [zup_at (by omega)])); first | done | assumption, by (repeat (first | rw [zu_ne (by omega)] | rw [zu_at (by omega) (by omega)] | rw [zup_ne (by omega)] | rw [zup_at (by omega)])); first | done | assumption, by (repeat (first | rw [zu_ne (by omega)] | rw [zu_at (by omega) (by omega)] | rw [zup_ne (by omega)] | rw [zup_at (by omega)])); first | done | assumption, by (repeat (first | rw [zu_ne (by omega)] | rw [zu_at (by omega) (by omega)] | rw [zup_ne (by omega)] | rw [zup_at (by omega)])); first | done | assumption, by (repeat (first | rw [zu_ne (by omega)] | rw [zu_at (by omega) (by omega)] | rw [zup_ne (by omega)] | rw [zup_at (by omega)])); first | done | assumption, by (repeat (first | rw [zu_ne (by omega)] | rw [zu_at (by omega) (by omega)] | rw [zup_ne (by omega)] | rw [zup_at (by omega)])); first | done | assumption, by (repeat (first | rw [zu_ne (by omega)] | rw [zu_at (by omega) (by omega)] | rw [zup_ne (by omega)] | rw [zup_at (by omega)])); first | done | assumption⟩
  · exact zRt_c hr.2.1 (by (repeat (rw [zu_row (by omega)]))) (fun i h0 h1 => by (repeat (first | rw [zu_ne (by omega)] | rw [zu_at (by omega) (by omega)] | rw [zup_ne (by omega)] | rw [zup_at (by omega)])))
  · exact zRw_c hr.2.2.1 (by (repeat (rw [zu_row (by omega)]))) (fun i h0 h1 => by (repeat (first | rw [zu_ne (by omega)] | rw [zu_at (by omega) (by omega)] | rw [zup_ne (by omega)] | rw [zup_at (by omega)])))
  · intro q h0 h1
    have h1' : q < V 1 := by have e := h1; rw [zup_ne (by omega)] at e; exact e
    obtain ⟨a0, a1, a2, a3⟩ := hr.2.2.2.1 q h0 h1'
    by_cases e : q = h
    · subst e
      exact ⟨by (repeat (first | rw [zu_ne (by omega)] | rw [zu_at (by omega) (by omega)] | rw [zup_ne (by omega)] | rw [zup_at (by omega)])); exact a0, by (repeat (first | rw [zu_ne (by omega)] | rw [zu_at (by omega) (by omega)] | rw [zup_ne (by omega)] | rw [zup_at (by omega)])), by (repeat (first | rw [zu_ne (by omega)] | rw [zu_at (by omega) (by omega)] | rw [zup_ne (by omega)] | rw [zup_at (by omega)])); exact a2, fun z => by
        have z2 : 0 < V (72 + 4 * q + 2) := by revert z; (repeat (first | rw [zu_ne (by omega)] | rw [zu_at (by omega) (by omega)] | rw [zup_ne (by omega)] | rw [zup_at (by omega)])); exact id
        (repeat (first | rw [zu_ne (by omega)] | rw [zu_at (by omega) (by omega)] | rw [zup_ne (by omega)] | rw [zup_at (by omega)]))
        exact a3 z2⟩
    · exact ⟨by (repeat (first | rw [zu_ne (by omega)] | rw [zu_at (by omega) (by omega)] | rw [zup_ne (by omega)] | rw [zup_at (by omega)])); exact a0, by (repeat (first | rw [zu_ne (by omega)] | rw [zu_at (by omega) (by omega)] | rw [zup_ne (by omega)] | rw [zup_at (by omega)])); exact a1, by (repeat (first | rw [zu_ne (by omega)] | rw [zu_at (by omega) (by omega)] | rw [zup_ne (by omega)] | rw [zup_at (by omega)])); exact a2, fun z => by
        have z2 : 0 < V (72 + 4 * q + 2) := by revert z; (repeat (first | rw [zu_ne (by omega)] | rw [zu_at (by omega) (by omega)] | rw [zup_ne (by omega)] | rw [zup_at (by omega)])); exact id
        (repeat (first | rw [zu_ne (by omega)] | rw [zu_at (by omega) (by omega)] | rw [zup_ne (by omega)] | rw [zup_at (by omega)]))
        exact a3 z2⟩
  · exact hr.2.2.2.2.1
  · exact zRm_c hr.2.2.2.2.2.1 hr.2.2.2.2.1 hI.2.2.1.2 (zIV_b6 hI) (fun o ho => by have := zMo_bd ho; constructor <;> (repeat (rw [zu_row (by omega)]))) rfl (by (repeat (first | rw [zu_ne (by omega)] | rw [zu_at (by omega) (by omega)] | rw [zup_ne (by omega)] | rw [zup_at (by omega)]))) (fun i h0 h1 => by (repeat (first | rw [zu_ne (by omega)] | rw [zu_at (by omega) (by omega)] | rw [zup_ne (by omega)] | rw [zup_at (by omega)])))
  · exact zRa_c hr.2.2.2.2.2.2 (by (repeat (rw [zu_row (by omega)]))) (by (repeat (first | rw [zu_ne (by omega)] | rw [zu_at (by omega) (by omega)] | rw [zup_ne (by omega)] | rw [zup_at (by omega)]))) (fun i h0 h1 => by (repeat (first | rw [zu_ne (by omega)] | rw [zu_at (by omega) (by omega)] | rw [zup_ne (by omega)] | rw [zup_at (by omega)])))
