/-! the model says a message -/
theorem zlast_at9 {P : Int → Prop} [DecidablePred P] : ∀ n : Nat, 0 ≤ zlast P n → P (zlast P n)
  | 0, h => absurd h (show ¬ (0 : Int) ≤ -1 by decide)
  | n + 1, h => by
    unfold zlast at h ⊢
    by_cases q : P (n : Int)
    · rw [if_pos q]
      exact q
    · rw [if_neg q] at h ⊢
      exact zlast_at9 n h
/-- the model's text of the message at p -/
def zwK (p x : Int) (r : Int → Int) (K : zMem) : zMem := zsR (r (96 + 47 * p + 5)).toNat (zsay (r (96 + 47 * p + 4)) (zsN 1 (r (96 + 47 * p + 3)) (zsay 61 (zsN 0 (r (96 + 47 * p + 2)) (zsay 62 (zsN 0 (r (96 + 47 * p + 1)) (zsay 58 (zsN 3 x (zu K 398 10 0)))))))))

