/-! ids ascend; how the places move; a message begins, arrives, is lost -/
def zId (V : Int → Int) : Prop := ∀ p q, 0 ≤ p → p < q → q < V 2 → V (96 + 47 * p + 0) < V (96 + 47 * q + 0)
theorem zId.ne {V : Int → Int} (h : zId V) : ∀ p q, 0 ≤ p → p < q → q < V 2 → V (96 + 47 * p + 0) ≠ V (96 + 47 * q + 0) := fun p q a b c => by have := h p q a b c; omega
def zmk (p k : Int) (r : Int → Int) : Int → Int := fun q => if p ≤ q ∧ q < p + k then r (q + 1) else r q
theorem zmk_step {p : Int} {k : Nat} {r f : Int → Int} {t v : Int} (h : ∀ q, zc8 q → f q = zmk p k r q) (hp : 0 ≤ p) (hk : p + k + 1 < 8) (ht : t = p + k) (hv : v = f (p + k + 1)) : ∀ q, zc8 q → zup f t v q = zmk p ((k + 1 : Nat) : Int) r q := by
  intro q hq
  unfold zmk
  by_cases e : q = p + k
  · rw [zup_at (by omega), if_pos (by omega), hv, h (p + k + 1) ⟨by omega, by omega⟩]
    unfold zmk
    rw [if_neg (by omega), e]
  · rw [zup_ne (by omega), h q hq]
    unfold zmk
    by_cases e2 : p ≤ q ∧ q < p + k
    · rw [if_pos e2, if_pos (by omega)]
    · rw [if_neg e2, if_neg (by omega)]
theorem zmk_end {p n : Int} {k : Nat} {r f : Int → Int} {t v : Int} (h : ∀ q, zc8 q → f q = zmk p k r q) (hk : p + k = n - 1) (hp : 0 ≤ p ∧ p < n) (ht : t = n - 1) (hv : v = r p) : ∀ q, zc8 q → zup f t v q = zmv p n r q := by
  intro q hq
  unfold zmv
  by_cases e : q = n - 1
  · rw [zup_at (by omega), if_neg (by omega), if_pos e, hv]
  · rw [zup_ne (by omega), h q hq]
    unfold zmk
    by_cases e2 : p ≤ q ∧ q < p + k
    · rw [if_pos e2, if_pos (by omega)]
    · rw [if_neg e2, if_neg (by omega), if_neg e]
theorem zu_rowup {F : zMem} {i t v : Int} : zu F i t v i = zup (F i) t v := by
  funext q
  unfold zu zup
  by_cases e : q = t
  · rw [if_pos ⟨rfl, e⟩, if_pos e]
  · rw [if_neg (fun z => e z.2), if_neg e]
