/-! loudness: the class's is the model's -/
theorem zfl_0 : zfl 0 = FP.fconst1 := by decide +kernel
theorem zLd_fl {V : Int → Int} {a b : Int} (hT : ∀ i, 8 ≤ i → i < 72 → 0 ≤ V i ∧ V i ≤ 9) (ha : zc8 a) : zLd a b V = zfl (zBF V a b) := by
  unfold zLd
  by_cases h : a = b
  · rw [if_pos h, ← h, (zBF_SP hT ha).1, zfl_0]
  · rw [if_neg h]
theorem zBF_dl {V : Int → Int} (hT : ∀ i, 8 ≤ i → i < 72 → 0 ≤ V i ∧ V i ≤ 9) {a v : Int} (ha : zc8 a) (hv : zc8 v) : zBF V a v = 1000 ∨ (0 ≤ zBF V a v ∧ zBF V a v ≤ 63) := by
  have h := zBF_bd (V := V) (a := a) hT v hv.1 hv.2
  by_cases q : zBF V a v < 1000
  · exact Or.inr (zBF_63 hT ha hv q)
  · exact Or.inl (by omega)
