/-! what a State tells: the plain facts -/
theorem zpl_is1 {V : Int → Int} {id p : Int} (hu : ∀ p q, 0 ≤ p → p < q → q < V 2 → V (96 + 47 * p + 0) ≠ V (96 + 47 * q + 0)) (h0 : 0 ≤ p) (h1 : p < V 2) (h2 : V (96 + 47 * p + 0) = id) : zpl id V = p := by
  have key : ∀ n : Nat, p < n → (n : Int) ≤ V 2 → zlast (fun q => V (96 + 47 * q + 0) = id) n = p := by
    intro n
    induction n with
    | zero => intro h3 h4; omega
    | succ n ih =>
      intro h3 h4
      have hd : zlast (fun q => V (96 + 47 * q + 0) = id) (n + 1) = if V (96 + 47 * (n : Int) + 0) = id then (n : Int) else zlast (fun q => V (96 + 47 * q + 0) = id) n := rfl
      rw [hd]
      by_cases e : p = n
      · rw [← e, if_pos h2]
      · rw [if_neg (fun z => hu p n h0 (by omega) (by omega) (h2.trans z.symm)), ih (by omega) (by omega)]
  exact key (V 2).toNat (by omega) (by omega)
theorem zpl_is0 {V : Int → Int} {id : Int} (h : ∀ q, 0 ≤ q → q < V 2 → ¬ V (96 + 47 * q + 0) = id) : zpl id V = -1 := by
  have key : ∀ n : Nat, (n : Int) ≤ V 2 ∨ n = 0 → zlast (fun q => V (96 + 47 * q + 0) = id) n = -1 := by
    intro n
    induction n with
    | zero => intro _; rfl
    | succ n ih =>
      intro h4
      have hd : zlast (fun q => V (96 + 47 * q + 0) = id) (n + 1) = if V (96 + 47 * (n : Int) + 0) = id then (n : Int) else zlast (fun q => V (96 + 47 * q + 0) = id) n := rfl
      rw [hd, if_neg (h n (by omega) (by omega)), ih (by omega)]
  exact key (V 2).toNat (by omega)
