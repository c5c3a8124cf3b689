/-! the class's tick against the model's -/
abbrev zP1 (W : Int → Int) (c x : Int) : Int → Prop := fun q => W (72 + 4 * W (96 + 47 * q + 1) + 0) = c ∧ W (96 + 47 * q + 4) = x
theorem zBf_is {W : Int → Int} {c r : Int} (h2 : 0 ≤ W 2) (h : zF1 (zP1 W c 119) 0 (W 2) r) : zBf c W = r := by
  have h1 := zfst_F1 (P := fun q => zhm W q = c ∧ W (96 + 47 * q + 4) = 119) (W 2).toNat
  have e : (((W 2).toNat : Nat) : Int) = W 2 := Int.toNat_of_nonneg h2
  rw [e] at h1
  exact zF1_one h1 h (Int.le_refl 0)
theorem zBegA {W : Int → Int} {c : Int} (h2 : 0 ≤ W 2) (h : zF1 (zP1 W c 119) 0 (W 2) (-1)) : zBeg1 c W = W := by
  unfold zBeg1
  rw [if_pos (Or.inr (by rw [zBf_is h2 h]; decide))]
theorem zBegB {W : Int → Int} {c r : Int} (h : zF1 (zP1 W c 100) 0 (W 2) r) (hr : ¬ r = -1) : zBeg1 c W = W := by
  unfold zBeg1
  rcases h with ⟨z, -⟩ | ⟨a, b, d, -⟩
  · exact absurd z hr
  · have hb : zBd c W = true := zany_iff.mpr ⟨r, a, by omega, d⟩
    rw [if_pos (Or.inl hb)]
theorem zBegC {W : Int → Int} {c r s : Int} (h2 : 0 ≤ W 2) (h : zF1 (zP1 W c 119) 0 (W 2) r) (hr : ¬ r = -1) (hs : zF1 (zP1 W c 100) 0 (W 2) s) (hs1 : s = -1) : zBeg1 c W = zup (zup W (96 + 47 * r + 4) 100) (96 + 47 * r + 6) 0 := by
  unfold zBeg1
  have h0 : ¬ zBf c W < 0 := by
    rw [zBf_is h2 h]
    rcases h with ⟨z, -⟩ | ⟨a, -⟩ <;> omega
  have h1 : ¬ zBd c W = true := fun z => by
    obtain ⟨q, q0, q1, q2⟩ := zany_iff.mp z
    rcases hs with ⟨-, y⟩ | ⟨a, -⟩
    · exact y q q0 (by omega) q2
    · omega
  rw [if_neg (fun z => z.elim h1 h0), zBf_is h2 h]
theorem zF1_r {P : Int → Prop} {n r : Int} (h : zF1 P 0 n r) (hr : ¬ r = -1) : 0 ≤ r ∧ r < n := by
  rcases h with ⟨z, -⟩ | ⟨a, b, -⟩
  · exact absurd z hr
  · exact ⟨a, b⟩
theorem zAr_iff {V : Int → Int} {p : Int} : zAr p V = true ↔ (V (72 + 4 * V (96 + 47 * p + 2) + 1) = 1 ∧ zBF V (zhm V p) (zrc V p) < 1000) ∧ ∀ b : Int, 0 ≤ b → b < 5 → zOk V p b := by
  unfold zAr
  rw [Bool.and_eq_true, Bool.and_eq_true, decide_eq_true_eq, decide_eq_true_eq]
  unfold zOkB
  rw [@zall_iff (zOk V p) (zOk_dec V p) 5]
  rfl
theorem zDr_0 {p : Int} {W : Int → Int} (h : zbt (W (96 + 47 * p + 3)) (W (96 + 47 * p + 6)) = 0) : zDr p W = zup W (96 + 47 * p + 6) (W (96 + 47 * p + 6) + 1) := by
  unfold zDr zDr1
  rw [if_pos h]
theorem zDe_1 {p : Int} {W : Int → Int} (h : zAr p W = true) : zDe p W = zup (zup (zup (zup (zup W (96 + 47 * p + 6) 0) (96 + 47 * p + 4) 114) (72 + 4 * W (96 + 47 * p + 2) + 2) (W (72 + 4 * W (96 + 47 * p + 2) + 2) + 1)) (72 + 4 * W (96 + 47 * p + 2) + 3) (W (96 + 47 * p + 3) + 1)) 6 (W 6 + 1) := by
  unfold zDe
  rw [if_pos h]
theorem zDe_0 {p s : Int} {W : Int → Int} (h : ¬ zAr p W = true) (hs : s = if W (96 + 47 * p + 5) + 1 = 3 then 108 else 119) : zDe p W = zup (zup (zup (zup W (96 + 47 * p + 6) 0) (96 + 47 * p + 5) (W (96 + 47 * p + 5) + 1)) (96 + 47 * p + 4) s) 7 (W 7 + 1) := by
  unfold zDe
  rw [if_neg h, hs]
