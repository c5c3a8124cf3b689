/-! the model executes -/
/-- the i-th command of the text, done -/
def zdX (T : Int → Int) (n : Int) (i : Nat) (V : Int → Int) : zO := zdC (zkn T n (zAt T n i)) (zka T n (zAt T n i) 0) (zka T n (zAt T n i) 1) (zka T n (zAt T n i) 2) V
/-- the row after i commands -/
def zVi (T : Int → Int) (n : Int) (V : Int → Int) : Nat → (Int → Int)
  | 0 => V
  | i + 1 => (zdX T n i (zVi T n V i)).2.2
def zok (T : Int → Int) (n : Int) (V : Int → Int) (i : Nat) : Prop := (zdX T n i (zVi T n V i)).1 = 0
theorem zG_C {t k a b c : Int} {V : Int → Int} (hG : zGd t V) (ht : 0 ≤ t) : zGd (t + 680) (zdC k a b c V).2.2 := by
  have up : ∀ t' W', zGd t' W' → t' ≤ t + 680 → zGd (t + 680) W' := fun t' W' h q => ⟨zIV_mono h.1 q, h.2⟩
  unfold zdC
  split
  · exact up _ _ (zG_AT hG) (by omega)
  · split
    · exact up _ _ (zG_AH hG ht) (by omega)
    · split
      · exact up _ _ (zG_Say hG) (by omega)
      · split
        · exact up _ _ (zG_Li hG) (by omega)
        · split
          · exact up _ _ (zG_Li hG) (by omega)
          · split
            · exact up _ _ (zG_Mv hG) (by omega)
            · split
              · by_cases h : 1 ≤ a ∧ a ≤ 40
                · exact up _ _ ((zG_PT hG (by omega)).resolve_right (fun z => z h)) (by omega)
                · unfold zdPT
                  rw [if_pos h]
                  exact up _ _ hG (by omega)
              · exact up _ _ (zG_AC hG) (by omega)
theorem zG_Vi {T : Int → Int} {n t : Int} {V : Int → Int} (hG : zGd t V) (ht : 0 ≤ t) (i : Nat) : zGd (t + 680 * (i : Int)) (zVi T n V i) := by
  induction i with
  | zero => show zGd (t + 680 * 0) V; rw [show t + 680 * 0 = t by omega]; exact hG
  | succ i ih =>
    have h := zG_C (k := zkn T n (zAt T n i)) (a := zka T n (zAt T n i) 0) (b := zka T n (zAt T n i) 1) (c := zka T n (zAt T n i) 2) ih (by omega)
    rw [show t + 680 * (i : Int) + 680 = t + 680 * ((i + 1 : Nat) : Int) by omega] at h
    exact h
theorem zkm_bd {k : Int} : 0 ≤ zkm k ∧ zkm k ≤ 3 := by
  unfold zkm
  repeat' split
  all_goals omega
/-- the k-th command stands in the model's row -/
def zMk (T : Int → Int) (n : Int) (k : Nat) (M : zMem) : Prop := M 407 (4 * (k : Int)) = zkc (zkn T n (zAt T n k)) ∧ (0 ≤ zEn T n (zAt T n k) → ∀ j, 0 ≤ j → j < zkm (zkn T n (zAt T n k)) → M 407 (4 * (k : Int) + 1 + j) = zka T n (zAt T n k) j)
theorem zdX_is {T : Int → Int} {n : Int} {k : Nat} {M : zMem} {V : Int → Int} (h : zMk T n k M) (hq : 0 ≤ zEn T n (zAt T n k)) : zdC (zkn T n (zAt T n k)) (M 407 (4 * (k : Int) + 1)) (M 407 (4 * (k : Int) + 2)) (M 407 (4 * (k : Int) + 3)) V = zdX T n k V := by
  have b := zkn_bd (T := T) (n := n) (a := zAt T n k)
  have e := zdC_args (k := zkn T n (zAt T n k)) (r := fun j => M 407 (4 * (k : Int) + 1 + j)) (r' := fun j => zka T n (zAt T n k) j) (V := V) b.1 b.2 (fun j j0 j1 => h.2 hq j j0 j1)
  have e1 : (4 * (k : Int) + 1 + 0) = 4 * (k : Int) + 1 := by omega
  have e2 : (4 * (k : Int) + 1 + 1) = 4 * (k : Int) + 2 := by omega
  have e3 : (4 * (k : Int) + 1 + 2) = 4 * (k : Int) + 3 := by omega
  simp only [e1, e2, e3] at e
  exact e
theorem zpush_row {M : zMem} {i : Int} (h : i ≠ 398) (h2 : i ≠ 403) (j : Int) : zpush M i j = M i j := by
  unfold zpush
  split
  · rw [zu_ne (by omega), zcpy_ne (by omega), zu_ne (by omega), zcpy_ne (by omega)]
  · rw [zu_ne (by omega), zcpy_ne (by omega)]
theorem zpush_398 {M : zMem} {j : Int} (h : j ≠ 6) : zpush M 398 j = M 398 j := by
  unfold zpush
  split
  · rw [zu_ne (by omega), zcpy_ne (by omega), zu_ne (by omega), zcpy_ne (by omega)]
  · rw [zu_ne (by omega), zcpy_ne (by omega)]
/-- what the model's execute brings, of a text of m + 1 commands -/
def zXM (T : Int → Int) (n : Int) (V : Int → Int) (m : Nat) (M : zMem) (r : Int) (M' : zMem) : Prop :=
  ((∀ i, i < m → zgo T n i) ∧ ¬ zgo T n m) ∧
  ((∀ i, i ≠ 398 → i ≠ 399 → i ≠ 400 → i ≠ 403 → i ≠ 404 → i ≠ 407 → M' i = M i) ∧ (∀ j, j ≠ 6 → j ≠ 8 → j ≠ 12 → j ≠ 13 → j ≠ 14 → j ≠ 15 → j ≠ 16 → j ≠ 18 → M' 398 j = M 398 j) ∧ M' 398 12 = 0) ∧
  ((zer T n m ≠ -1 ∧ r = 0 ∧ M' 398 8 = 1 ∧ M' 398 15 = zer T n m ∧ M' 398 16 = M 398 16 ∧ M' 398 6 = M 398 6 ∧ M' 399 = V ∧ M' 403 = M 403) ∨
   (zer T n m = -1 ∧ ∃ f : Nat, f ≤ m ∧ (∀ i, i < f → zok T n V i) ∧ ¬ zok T n V f ∧ r = 0 ∧ M' 398 8 = 2 ∧ M' 398 15 = M 398 15 ∧ M' 398 16 = (f : Int) ∧ M' 398 6 = M 398 6 ∧ M' 399 = V ∧ M' 403 = M 403) ∨
   (zer T n m = -1 ∧ (∀ i, i ≤ m → zok T n V i) ∧ r = (m : Int) + 1 ∧ M' 398 8 = 0 ∧ M' 398 15 = M 398 15 ∧ M' 398 16 = M 398 16 ∧ ∃ M1 : zMem, M' = zpush M1 ∧ M1 399 = zVi T n V (m + 1) ∧ M1 400 = V ∧ M1 403 = M 403 ∧ M1 398 6 = M 398 6))

