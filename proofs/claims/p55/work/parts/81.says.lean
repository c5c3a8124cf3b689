/-! the model says numbers -/
def zsay (x : Int) (M : zMem) : zMem := zu (zu M 405 (M 398 10) x) 398 10 (M 398 10 + 1)
theorem zsay_n {x : Int} {M : zMem} : zsay x M 398 10 = M 398 10 + 1 := zu_same _ _ _ _
/-- a number's digits are said, k + 1 at most -/
def zsN : Nat → Int → zMem → zMem
  | 0, x, M => zsay (48 + x % 10) M
  | k + 1, x, M => if x ≤ 9 then zsay (48 + x % 10) M else zsay (48 + x % 10) (zsN k (x / 10) M)
theorem zsN_n : ∀ (k : Nat) (x : Int) (M : zMem), M 398 10 + 1 ≤ zsN k x M 398 10 ∧ zsN k x M 398 10 ≤ M 398 10 + (k : Int) + 1
  | 0, x, M => by
    show M 398 10 + 1 ≤ zsay _ M 398 10 ∧ zsay _ M 398 10 ≤ _
    rw [zsay_n]
    omega
  | k + 1, x, M => by
    show M 398 10 + 1 ≤ (if x ≤ 9 then zsay (48 + x % 10) M else zsay (48 + x % 10) (zsN k (x / 10) M)) 398 10 ∧ (if x ≤ 9 then zsay (48 + x % 10) M else zsay (48 + x % 10) (zsN k (x / 10) M)) 398 10 ≤ _
    by_cases h : x ≤ 9
    · rw [if_pos h, zsay_n]
      omega
    · have q := zsN_n k (x / 10) M
      rw [if_neg h, zsay_n]
      omega

