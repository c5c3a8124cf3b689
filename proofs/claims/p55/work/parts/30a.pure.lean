/-! more small facts -/
def zqE (k : Int) : zQu := if k < 0 then (1, 0) else (0, k)
theorem zqT_st {id : Int} {V : Int → Int} (h : ∀ p, 0 ≤ p → p < V 2 → 0 ≤ V (96 + 47 * p + 4) ∧ V (96 + 47 * p + 4) < 65536) (h2 : 0 ≤ V 2) : 0 ≤ (zqT id 4 V).2 ∧ (zqT id 4 V).2 < 65536 := by
  unfold zqT
  split
  · exact ⟨by decide, by decide⟩
  · rename_i hp
    have h3 := zlast_bd (P := fun q => V (96 + 47 * q + 0) = id) (V 2).toNat
    have h4 : zpl id V = zlast (fun q => V (96 + 47 * q + 0) = id) (V 2).toNat := rfl
    exact h _ (by omega) (by omega)
theorem zcnt_step {P : Int → Prop} [DecidablePred P] {v w : Int} {k : Nat} (hv : v = zcnt P k) (h : (P k ∧ w = v + 1) ∨ (¬ P k ∧ w = v + 0)) : w = zcnt P (k + 1) := by
  show w = zcnt P k + zb (P k)
  rcases h with ⟨h, e⟩ | ⟨h, e⟩
  · rw [zb_t h, e, hv]
  · rw [zb_f h, e, hv]
theorem zhr_step {k : Int} {V : Int → Int} {v w : Int} {n : Nat} (hv : v = zhr k V n) (h : (zah V n (V 1).toNat = k ∧ w = n) ∨ (¬ zah V n (V 1).toNat = k ∧ w = v)) : w = zhr k V (n + 1) := by
  show w = if _ then (n : Int) else zhr k V n
  rcases h with ⟨h, e⟩ | ⟨h, e⟩
  · rw [if_pos h, e]
  · rw [if_neg h, e, hv]
theorem zhr_bd {k : Int} {V : Int → Int} : ∀ n : Nat, 0 ≤ zhr k V n ∧ (zhr k V n ≤ n)
  | 0 => ⟨Int.le_refl _, Int.le_refl _⟩
  | n + 1 => by
    have h := zhr_bd (k := k) (V := V) n
    have hd : zhr k V (n + 1) = if zah V n (V 1).toNat = k then (n : Int) else zhr k V n := rfl
    rw [hd]
    split <;> omega
theorem zhr_end {x v : Int} {V : Int → Int} {k : Nat} (hv : v = zhr x V k) (hp : (0 ≤ x ∧ x < V 1) ∨ k = 0) (hx : (k : Int) = V 1 ∨ ¬ (0 ≤ x ∧ x < V 1)) : zqHR x V = ((zb (¬ (0 ≤ x ∧ x < V 1)), v) : zQu) := by
  unfold zqHR
  by_cases hP : 0 ≤ x ∧ x < V 1
  · rw [if_neg (fun z => z hP), zb_f (fun z => z hP), show (V 1).toNat = k by omega, ← hv]
  · have e0 : k = 0 := hp.elim (fun z => absurd z hP) id
    have e1 : v = 0 := by rw [hv, e0]; rfl
    rw [if_pos hP, zb_t hP, e1]
