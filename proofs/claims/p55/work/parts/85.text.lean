/-! texts -/
/-- one character is added -/
def zapC (x : Int) (M : zMem) : zMem := zu (zu M 396 3 (M 396 3 + 1)) 397 (M 396 3) x
/-- the text is emptied -/
def zst0 (x : Int) (M : zMem) : zMem := if M 396 3 ≤ x then zu M 396 3 x else zu (zu M 396 2 1) 396 3 x
def zapR (k : Nat) (M : zMem) : zMem := zfold (fun _ T => zapC 33 T) k M
def zsR (k : Nat) (M : zMem) : zMem := zfold (fun _ T => zsay 33 T) k M
theorem zapC_row {x : Int} {M : zMem} {i : Int} (h1 : i ≠ 396) (h2 : i ≠ 397) (j : Int) : zapC x M i j = M i j := by
  unfold zapC
  rw [zu_ne (by omega), zu_ne (by omega)]
theorem zapC_n {x : Int} {M : zMem} : zapC x M 396 3 = M 396 3 + 1 := by
  unfold zapC
  rw [zu_ne (by omega), zu_same]
theorem zapC_c {x : Int} {M : zMem} : zapC x M 396 1 = M 396 1 := by
  unfold zapC
  rw [zu_ne (by omega), zu_ne (by omega)]
theorem zapI_row {x : Int} {M : zMem} {i : Int} (h1 : i ≠ 396) (h2 : i ≠ 397) (j : Int) : zapI x M i j = M i j := by
  unfold zapI
  rw [zu_ne (by omega), zgch_row h2]
theorem zapI_n {x : Int} {M : zMem} : zapI x M 396 3 = M 396 3 + zlen x := zu_same _ _ _ _
theorem zapI_c {x : Int} {M : zMem} : zapI x M 396 1 = M 396 1 := by
  unfold zapI
  rw [zu_ne (by omega), zgch_row (by omega)]
theorem zst0_row {x : Int} {M : zMem} {i : Int} (h1 : i ≠ 396) (h2 : i ≠ 397) (j : Int) : zst0 x M i j = M i j := by
  unfold zst0
  split
  · rw [zu_ne (by omega)]
  · rw [zu_ne (by omega), zu_ne (by omega)]
theorem zst0_n {x : Int} {M : zMem} : zst0 x M 396 3 = x := by
  unfold zst0
  split <;> rw [zu_same]
theorem zst0_c {x : Int} {M : zMem} : zst0 x M 396 1 = M 396 1 := by
  unfold zst0
  split
  · rw [zu_ne (by omega)]
  · rw [zu_ne (by omega), zu_ne (by omega)]
theorem zapR_row {k : Nat} {M : zMem} {i : Int} (h1 : i ≠ 396) (h2 : i ≠ 397) (j : Int) : zapR k M i j = M i j := by
  induction k with
  | zero => rfl
  | succ k ih =>
    show zapC 33 (zapR k M) i j = _
    rw [zapC_row h1 h2, ih]
theorem zapR_n {M : zMem} (k : Nat) : zapR k M 396 3 = M 396 3 + (k : Int) := by
  induction k with
  | zero => show M 396 3 = _; omega
  | succ k ih =>
    show zapC 33 (zapR k M) 396 3 = _
    rw [zapC_n, ih]
    omega
theorem zapR_c {M : zMem} (k : Nat) : zapR k M 396 1 = M 396 1 := by
  induction k with
  | zero => rfl
  | succ k ih =>
    show zapC 33 (zapR k M) 396 1 = _
    rw [zapC_c, ih]
theorem zsay_row {x : Int} {M : zMem} {i : Int} (h1 : i ≠ 398) (h2 : i ≠ 405) (j : Int) : zsay x M i j = M i j := by
  unfold zsay
  rw [zu_ne (by omega), zu_ne (by omega)]
theorem zsay_398 {x : Int} {M : zMem} {j : Int} (h : j ≠ 10) : zsay x M 398 j = M 398 j := by
  unfold zsay
  rw [zu_ne (by omega), zu_ne (by omega)]
theorem zsN_row {x : Int} {k : Nat} {M : zMem} {i : Int} (h1 : i ≠ 398) (h2 : i ≠ 405) (j : Int) : zsN k x M i j = M i j := by
  induction k generalizing x with
  | zero => exact zsay_row h1 h2 j
  | succ k ih =>
    show (if x ≤ 9 then zsay _ M else zsay _ (zsN k (x / 10) M)) i j = _
    split
    · exact zsay_row h1 h2 j
    · rw [zsay_row h1 h2, ih]
theorem zsN_398 {x : Int} {k : Nat} {M : zMem} {j : Int} (h : j ≠ 10) : zsN k x M 398 j = M 398 j := by
  induction k generalizing x with
  | zero => exact zsay_398 h
  | succ k ih =>
    show (if x ≤ 9 then zsay _ M else zsay _ (zsN k (x / 10) M)) 398 j = _
    split
    · exact zsay_398 h
    · rw [zsay_398 h, ih]
theorem zsR_row {k : Nat} {M : zMem} {i : Int} (h1 : i ≠ 398) (h2 : i ≠ 405) (j : Int) : zsR k M i j = M i j := by
  induction k with
  | zero => rfl
  | succ k ih =>
    show zsay 33 (zsR k M) i j = _
    rw [zsay_row h1 h2, ih]
theorem zsR_398 {k : Nat} {M : zMem} {j : Int} (h : j ≠ 10) : zsR k M 398 j = M 398 j := by
  induction k with
  | zero => rfl
  | succ k ih =>
    show zsay 33 (zsR k M) 398 j = _
    rw [zsay_398 h, ih]
theorem zsR_n {M : zMem} (k : Nat) : zsR k M 398 10 = M 398 10 + (k : Int) := by
  induction k with
  | zero => show M 398 10 = _; omega
  | succ k ih =>
    show zsay 33 (zsR k M) 398 10 = _
    rw [zsay_n, ih]
    omega
theorem zsC_row {x : Int} {k : Nat} {M : zMem} {i : Int} (h1 : i ≠ 398) (h2 : i ≠ 405) (j : Int) : zsC x k M i j = M i j := by
  induction k with
  | zero => exact zu_ne (by omega)
  | succ k ih =>
    show zsay _ (zsC x k M) i j = _
    rw [zsay_row h1 h2, ih]
theorem zsC_398 {x : Int} {k : Nat} {M : zMem} {j : Int} (h : j ≠ 10) : zsC x k M 398 j = M 398 j := by
  induction k with
  | zero => exact zu_ne (by omega)
  | succ k ih =>
    show zsay _ (zsC x k M) 398 j = _
    rw [zsay_398 h, ih]
theorem zlen_h (x : Int) : (x < 10 → zlen x ≤ 1) ∧ (x < 100 → zlen x ≤ 2) ∧ (x < 1000 → zlen x ≤ 3) ∧ (x < 10000 → zlen x ≤ 4) := by
  unfold zlen
  by_cases h1 : x < 10
  · rw [if_pos h1]; omega
  · rw [if_neg h1]
    by_cases h2 : x < 100
    · rw [if_pos h2]; omega
    · rw [if_neg h2]
      by_cases h3 : x < 1000
      · rw [if_pos h3]; omega
      · rw [if_neg h3]
        by_cases h4 : x < 10000
        · rw [if_pos h4]; omega
        · rw [if_neg h4]; omega
theorem zapI_1 {x : Int} {M : zMem} (h0 : 0 ≤ x) (h1 : x < 10) : zapI x M = zapC (48 + x % 10) M := by
  have e : zlen x = 1 := if_pos h1
  unfold zapI zapC zgch
  rw [if_pos h1, e]
  funext i j
  simp only [zu]
  by_cases a : i = 396
  · subst a
    by_cases b : j = 3
    · rw [if_pos ⟨rfl, b⟩, if_neg (by omega), if_pos ⟨rfl, b⟩]
    · rw [if_neg (by omega), if_neg (by omega), if_neg (by omega), if_neg (by omega)]
  · rw [if_neg (by omega)]
    by_cases b : i = 397 ∧ j = M 396 3
    · rw [if_pos (by omega), if_pos b]
    · rw [if_neg (by omega), if_neg b, if_neg (by omega)]
theorem zapI_s {x : Int} {M : zMem} (h0 : 10 ≤ x) (h1 : x < 10000) : zapI x M = zapC (48 + x % 10) (zapI (x / 10) M) := by
  funext i j
  by_cases a : i = 396
  · subst a
    by_cases b : j = 3
    · subst b
      rw [zapI_n, zapC_n, zapI_n]
      have e : zlen x = zlen (x / 10) + 1 := by
        unfold zlen
        by_cases h2 : x < 100
        · rw [if_neg (by omega), if_pos h2, if_pos (by omega)]; rfl
        · by_cases h3 : x < 1000
          · rw [if_neg (by omega), if_neg (by omega), if_pos h3, if_neg (by omega), if_pos (by omega)]; rfl
          · rw [if_neg (by omega), if_neg (by omega), if_neg h3, if_pos (by omega), if_neg (by omega), if_neg (by omega), if_pos (by omega)]; rfl
      omega
    · unfold zapI zapC
      rw [zu_ne (by omega), zu_ne (by omega), zu_ne (by omega), zu_ne (by omega), zgch_row (by omega), zgch_row (by omega)]
  · by_cases a7 : i = 397
    · subst a7
      unfold zapC
      rw [zapI_n]
      unfold zapI
      rw [zu_ne (by omega)]
      by_cases h2 : x < 100
      · have e : zlen x = 2 := by unfold zlen; rw [if_neg (by omega), if_pos h2]
        have e1 : zlen (x / 10) = 1 := by unfold zlen; rw [if_pos (by omega)]
        unfold zgch
        rw [e, e1, if_neg (by omega), if_pos h2, if_pos (by omega)]
        by_cases j1 : j = M 396 3 + 1
        · rw [zu_ne (by omega), zu_at rfl (by omega), zu_at rfl (by omega)]
        · rw [zu_ne (i := 397) (j := M 396 3 + 1) (by omega), zu_ne (i := 396) (by omega), zu_ne (i := 396) (by omega)]
          by_cases j0 : j = M 396 3
          · rw [zu_at rfl (by omega), zu_at rfl (by omega)]
            omega
          · rw [zu_ne (by omega), zu_ne (by omega), zu_ne (by omega)]
      · by_cases h3 : x < 1000
        · have e : zlen x = 3 := by unfold zlen; rw [if_neg (by omega), if_neg (by omega), if_pos h3]
          have e1 : zlen (x / 10) = 2 := by unfold zlen; rw [if_neg (by omega), if_pos (by omega)]
          unfold zgch
          rw [e, e1, if_neg (by omega), if_neg (by omega), if_pos h3, if_neg (by omega), if_pos (by omega)]
          by_cases j2 : j = M 396 3 + 2
          · rw [zu_ne (by omega), zu_ne (by omega), zu_at rfl (by omega), zu_at rfl (by omega)]
            omega
          · rw [zu_ne (i := 397) (j := M 396 3 + 2) (by omega), zu_ne (i := 396) (by omega), zu_ne (i := 396) (by omega)]
            by_cases j1 : j = M 396 3 + 1
            · rw [zu_ne (by omega), zu_at rfl (by omega), zu_ne (by omega), zu_at rfl (by omega)]
              omega
            · by_cases j0 : j = M 396 3
              · rw [zu_at rfl (by omega), zu_at rfl (by omega)]
                omega
              · rw [zu_ne (by omega), zu_ne (by omega), zu_ne (by omega), zu_ne (by omega), zu_ne (by omega)]
        · have e : zlen x = 4 := by unfold zlen; rw [if_neg (by omega), if_neg (by omega), if_neg (by omega), if_pos h1]
          have e1 : zlen (x / 10) = 3 := by unfold zlen; rw [if_neg (by omega), if_neg (by omega), if_pos (by omega)]
          unfold zgch
          rw [e, e1, if_neg (by omega), if_neg (by omega), if_neg h3, if_neg (by omega), if_neg (by omega), if_pos (by omega)]
          by_cases j3 : j = M 396 3 + 3
          · rw [zu_ne (by omega), zu_ne (by omega), zu_ne (by omega), zu_at rfl (by omega), zu_at rfl (by omega)]
            omega
          · rw [zu_ne (i := 397) (j := M 396 3 + 3) (by omega), zu_ne (i := 396) (by omega), zu_ne (i := 396) (by omega)]
            by_cases j2 : j = M 396 3 + 2
            · rw [zu_ne (by omega), zu_ne (by omega), zu_at rfl (by omega), zu_ne (by omega), zu_ne (by omega), zu_at rfl (by omega)]
              omega
            · by_cases j1 : j = M 396 3 + 1
              · rw [zu_ne (by omega), zu_at rfl (by omega), zu_ne (by omega), zu_at rfl (by omega)]
                omega
              · by_cases j0 : j = M 396 3
                · rw [zu_at rfl (by omega), zu_at rfl (by omega)]
                  omega
                · rw [zu_ne (by omega), zu_ne (by omega), zu_ne (by omega), zu_ne (by omega), zu_ne (by omega), zu_ne (by omega), zu_ne (by omega)]
    · rw [zapI_row a a7, zapC_row a a7, zapI_row a a7]
