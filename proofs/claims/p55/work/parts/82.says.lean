/-! the model says a code -/
/-- a code's five beats are said -/
def zsC (x : Int) (k : Nat) (M : zMem) : zMem := zfold (fun j W => zsay (if zbt x j = 1 then 120 else 46) W) k (zu M 398 10 0)
theorem zsC_n {x : Int} {M : zMem} (k : Nat) : zsC x k M 398 10 = (k : Int) := by
  induction k with
  | zero =>
    show zu M 398 10 0 398 10 = _
    rw [zu_same]
    rfl
  | succ k ih =>
    show zsay (if zbt x (k : Int) = 1 then 120 else 46) (zsC x k M) 398 10 = _
    rw [zsay_n, ih]
    omega

