/-! the hares' ranks are a permutation -/
theorem zrnk_lt {V : Int → Int} {a b : Int} (ha : 0 ≤ a ∧ a < V 1) (h : 0 < V (72 + 4 * a + 2) - V (72 + 4 * b + 2) ∨ (V (72 + 4 * a + 2) - V (72 + 4 * b + 2) = 0 ∧ a < b)) : zrnk V a < zrnk V b :=
  zcnt_lt (fun q hq => by omega) (u := a) (by omega) h (V 1).toNat ha.1 (by omega)
theorem zrnk_ne {V : Int → Int} {a b : Int} (ha : 0 ≤ a ∧ a < V 1) (hb : 0 ≤ b ∧ b < V 1) (h : a ≠ b) : zrnk V a ≠ zrnk V b := by
  by_cases q : 0 < V (72 + 4 * a + 2) - V (72 + 4 * b + 2) ∨ (V (72 + 4 * a + 2) - V (72 + 4 * b + 2) = 0 ∧ a < b)
  · have := zrnk_lt ha q
    omega
  · have := zrnk_lt (a := b) (b := a) hb (by omega)
    omega
theorem zrnk_in {V : Int → Int} {a : Int} (ha : 0 ≤ a ∧ a < V 1) : 0 ≤ zrnk V a ∧ zrnk V a < V 1 := by
  have h := zcnt_bd (P := fun q => 0 < V (72 + 4 * q + 2) - V (72 + 4 * a + 2) ∨ (V (72 + 4 * q + 2) - V (72 + 4 * a + 2) = 0 ∧ q < a)) (V 1).toNat
  refine ⟨h.1, ?_⟩
  by_cases q : ((V 1).toNat : Int) ≤ zrnk V a
  · have := zcnt_all (V 1).toNat q a ha.1 (by omega)
    omega
  · omega
theorem pig_hole : ∀ (n : Nat) (f : Nat → Nat), (∀ a, a < n → f a < n) → (∀ a b, a < n → b < n → f a = f b → a = b) → ∀ k, k < n → ∃ a, a < n ∧ f a = k
  | 0, _, _, _, k, hk => absurd hk (Nat.not_lt_zero k)
  | n + 1, f, h1, h2, k, hk => by
    by_cases hv : f n = k
    · exact ⟨n, by omega, hv⟩
    have hb : ∀ a, a < n → (if f a = n then f n else f a) < n := by
      intro a ha
      have := h1 a (by omega)
      have hn := h1 n (by omega)
      split
      · next e =>
        have : f n ≠ n := fun z => by
          have := h2 a n (by omega) (by omega) (e.trans z.symm)
          omega
        omega
      · omega
    have hj : ∀ a b, a < n → b < n → (if f a = n then f n else f a) = (if f b = n then f n else f b) → a = b := by
      intro a b ha hb' e
      have ea := h2 a b (by omega) (by omega)
      have en := h2 a n (by omega) (by omega)
      have em := h2 b n (by omega) (by omega)
      split at e
      · next e1 =>
        split at e
        · next e2 => exact ea (e1.trans e2.symm)
        · have := em e.symm
          omega
      · split at e
        · have := en e
          omega
        · exact ea e
    by_cases hkn : k = n
    · obtain ⟨a, ha, e⟩ := pig_hole n (fun a => if f a = n then f n else f a) hb hj (f n) (by
        have := h1 n (by omega)
        omega)
      have e : (if f a = n then f n else f a) = f n := e
      split at e
      · next e1 => exact ⟨a, by omega, by omega⟩
      · have := h2 a n (by omega) (by omega) e
        omega
    · obtain ⟨a, ha, e⟩ := pig_hole n (fun a => if f a = n then f n else f a) hb hj k (by omega)
      have e : (if f a = n then f n else f a) = k := e
      split at e
      · exact absurd e hv
      · exact ⟨a, by omega, e⟩
theorem zrnk_at {V : Int → Int} {k : Int} (hk : 0 ≤ k ∧ k < V 1) : ∃ a, (0 ≤ a ∧ a < V 1) ∧ zrnk V a = k := by
  obtain ⟨a, ha, e⟩ := pig_hole (V 1).toNat (fun a => (zrnk V a).toNat) (fun a ha => by
    have := zrnk_in (V := V) (a := a) ⟨by omega, by omega⟩
    show (zrnk V a).toNat < _
    omega) (fun a b ha hb e => by
    have ia := zrnk_in (V := V) (a := a) ⟨by omega, by omega⟩
    have ib := zrnk_in (V := V) (a := b) ⟨by omega, by omega⟩
    have e : (zrnk V a).toNat = (zrnk V b).toNat := e
    by_cases h : (a : Int) = b
    · omega
    · have := zrnk_ne (V := V) (a := a) (b := b) ⟨by omega, by omega⟩ ⟨by omega, by omega⟩ h
      omega) k.toNat (by omega)
  have e : (zrnk V a).toNat = k.toNat := e
  have ia := zrnk_in (V := V) (a := a) ⟨by omega, by omega⟩
  exact ⟨a, ⟨by omega, by omega⟩, by omega⟩
theorem zhr_is {V : Int → Int} {a k : Int} (ha : 0 ≤ a ∧ a < V 1) (hk : zrnk V a = k) : ∀ m : Nat, (m : Int) ≤ V 1 → a < m → zhr k V m = a
  | 0, _, h => by omega
  | m + 1, hm, h => by
    show (if zah V (m : Int) (V 1).toNat = k then (m : Int) else zhr k V m) = a
    have e1 : zah V (m : Int) (V 1).toNat = zrnk V m := rfl
    rw [e1]
    by_cases hma : (m : Int) = a
    · rw [hma, if_pos hk]
    · rw [if_neg (fun z => zrnk_ne (V := V) (a := m) (b := a) ⟨by omega, by omega⟩ ha hma (z.trans hk.symm)), zhr_is ha hk m (by omega) (by omega)]
theorem zqHR_yes {V : Int → Int} {a k : Int} (ha : 0 ≤ a ∧ a < V 1) (hk : zrnk V a = k) : zqHR k V = (0, a) := by
  have := zrnk_in ha
  unfold zqHR
  rw [if_neg (fun z => z (by omega)), zhr_is ha hk (V 1).toNat (by omega) (by omega)]
theorem zqHR_no {V : Int → Int} {k : Int} (h : ∀ q, 0 ≤ q → q < V 1 → zrnk V q ≠ k) : zqHR k V = (1, 0) := by
  unfold zqHR
  rw [if_pos (fun z => by
    obtain ⟨a, ha, e⟩ := zrnk_at z
    exact h a ha.1 ha.2 e)]
