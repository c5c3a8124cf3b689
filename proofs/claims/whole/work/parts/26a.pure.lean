/-! small facts of plain functions -/
theorem zfill_lo {V : Int → Int} {n : Int} (k : Nat) {j : Int} (hj : j < 96) (hn : 0 ≤ n) : zfold (fun k W => zup W (96 + 47 * n + k) 0) k V j = V j := by
  refine zfold_ind (fun _ (W : Int → Int) => W j = V j) rfl (fun k W _ h => ?_)
  show zup W _ _ j = V j
  rw [zup_ne (by omega)]
  exact h
theorem zlast_bd {P : Int → Prop} [DecidablePred P] : ∀ n : Nat, -1 ≤ zlast P n ∧ zlast P n < n
  | 0 => ⟨Int.le_refl _, by show (-1 : Int) < 0; decide⟩
  | n + 1 => by
    have h := zlast_bd (P := P) n
    have hd : zlast P (n + 1) = if P n then (n : Int) else zlast P n := rfl
    rw [hd]
    split <;> omega
theorem zfo_mem {M : zMem} {p : Int} : zcpy (zrow M 399 (zup (M 399) 2 (M 399 2 - 1))) 399 (96 + 47 * p + 47) 399 (96 + 47 * p) (47 * (M 399 2 - 1 - p)) = zrow M 399 (zdFoR p (M 399)) := by
  unfold zcpy
  rw [zrow_twice]
  simp only [zrow_same]
  rfl
theorem zdFoR_2 {p : Int} {V : Int → Int} (hp : 0 ≤ p) : zdFoR p V 2 = V 2 - 1 := by
  unfold zdFoR
  rw [if_neg (by omega), zup_same]
