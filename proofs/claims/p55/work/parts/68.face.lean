/-! more of the face -/
theorem zRS_but {b : Int} {V : Int → Int} {M F M' F' : zMem} (h : zRS b V M F) (hV1 : V 1 ≤ 6) (hV2 : V 2 ≤ 8) (e : ∀ i, b ≤ i → i < b + 31 → i ≠ b + 4 → M' i = M i ∧ F' i = F i) : zRS b V M' F' := by
  obtain ⟨hc, ht, hw, hh, hp, hm, ha⟩ := h
  have e6 := (e (b + 6) (by omega) (by omega) (by omega)).2
  refine ⟨?_, ?_, ?_, ?_, ?_, ?_, ?_⟩
  · unfold zRc
    rw [(e (b + 1) (by omega) (by omega) (by omega)).1, (e b (by omega) (by omega) (by omega)).1]
    exact hc
  · intro i h0 h1
    rw [(e (b + 2) (by omega) (by omega) (by omega)).1]
    exact ht i h0 h1
  · intro a c h0 h1
    rw [(e (b + 3) (by omega) (by omega) (by omega)).1]
    exact hw a c h0 h1
  · intro q h0 h1
    rw [(e (b + 9 + q) (by omega) (by omega) (by omega)).1]
    exact hh q h0 h1
  · exact ⟨fun p h8 => by rw [e6]; exact hp.1 p h8, fun p q h8 q8 => by rw [e6]; exact hp.2 p q h8 q8⟩
  · intro p h0 h1
    have hmo := hp.1 p ⟨h0, by omega⟩
    have hbd := zMo_bd hmo
    rw [e6]
    unfold zRm1
    rw [(e (F (b + 6) p) (by omega) (by omega) (by omega)).1, (e (F (b + 6) p + 1) (by omega) (by omega) (by omega)).1]
    exact hm p h0 h1
  · intro c t hc8 h0 h1
    rw [(e (b + 8) (by omega) (by omega) (by omega)).1]
    exact ha c t hc8 h0 h1
/-- how many hares are ahead of one -/
def zrnk (V : Int → Int) (x : Int) : Int := zcnt (fun q => 0 < V (72 + 4 * q + 2) - V (72 + 4 * x + 2) ∨ (V (72 + 4 * q + 2) - V (72 + 4 * x + 2) = 0 ∧ q < x)) (V 1).toNat
theorem zRS_5 {V w : Int → Int} {M F : zMem} (h : zRS 1 V M F) (h1 : V 1 ≤ 6) (h2 : V 2 ≤ 8) : zRS 1 V (zrow M 5 w) F := zRS_but h h1 h2 (fun i _ _ hi => ⟨zrow_ne hi, rfl⟩)
theorem zHi_zero {zt many : Int} {U : Int → Int → Int} {M F M' F' : zMem} (h : zHi zt many U M F) (e : ∀ i, 94 ≤ i → i < 375 → i ≠ 94 → M' i = M i ∧ F' i = F i) (e1 : M' 94 1 = M 94 1) (e2 : M' 94 2 = 0) : zHi zt 0 U M' F' :=
  ⟨e2, by rw [e1]; exact h.2.1, by decide, fun k k0 k1 => by omega, fun t t0 t1 => zRp_in (h.2.2.2.2 t t0 t1) (e _ (by omega) (by omega) (by omega)).2⟩
