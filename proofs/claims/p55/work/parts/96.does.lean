/-! the model does a command -/
/-- what a command does -/
def zdC (k a b c : Int) (V : Int → Int) : zO := if k = 1 then zdAT a b c V else if k = 2 then zdAH a V else if k = 3 then zdSay a b c V else if k = 4 then zdLi a True V else if k = 5 then zdLi a False V else if k = 6 then zdMv a b V else if k = 7 then zdPT a V else zdAC V
theorem zdC_args {k : Int} {r r' : Int → Int} {V : Int → Int} (h0 : 0 ≤ k) (h1 : k < 8) (h : ∀ j, 0 ≤ j → j < zkm k → r j = r' j) : zdC k (r 0) (r 1) (r 2) V = zdC k (r' 0) (r' 1) (r' 2) V := by
  have e : k = 0 ∨ k = 1 ∨ k = 2 ∨ k = 3 ∨ k = 4 ∨ k = 5 ∨ k = 6 ∨ k = 7 := by omega
  rcases e with rfl | rfl | rfl | rfl | rfl | rfl | rfl | rfl
  · rfl
  · rw [h 0 (by decide) (by decide), h 1 (by decide) (by decide), h 2 (by decide) (by decide)]
  · show zdAH (r 0) V = zdAH (r' 0) V
    rw [h 0 (by decide) (by decide)]
  · rw [h 0 (by decide) (by decide), h 1 (by decide) (by decide), h 2 (by decide) (by decide)]
  · show zdLi (r 0) True V = zdLi (r' 0) True V
    rw [h 0 (by decide) (by decide)]
  · show zdLi (r 0) False V = zdLi (r' 0) False V
    rw [h 0 (by decide) (by decide)]
  · show zdMv (r 0) (r 1) V = zdMv (r' 0) (r' 1) V
    rw [h 0 (by decide) (by decide), h 1 (by decide) (by decide)]
  · show zdPT (r 0) V = zdPT (r' 0) V
    rw [h 0 (by decide) (by decide)]
/-- the kind that a sign of the model stands for -/
def zki (v : Int) : Int := if v = 117 then 1 else if v = 104 then 2 else if v = 115 then 3 else if v = 108 then 4 else if v = 122 then 5 else if v = 103 then 6 else if v = 116 then 7 else 0
theorem zkc_iv {k : Int} (h0 : 0 ≤ k) (h1 : k < 8) : k = zki (zkc k) := by
  have e : k = 0 ∨ k = 1 ∨ k = 2 ∨ k = 3 ∨ k = 4 ∨ k = 5 ∨ k = 6 ∨ k = 7 := by omega
  rcases e with rfl | rfl | rfl | rfl | rfl | rfl | rfl | rfl <;> rfl
theorem zrow_404 {M : zMem} {r : Int → Int} : zrow (zrow M 399 r) 404 (M 404) = zrow M 399 r := by
  have h := zrow_eta (zrow M 399 r) 404
  rw [zrow_ne (by decide)] at h
  exact h

