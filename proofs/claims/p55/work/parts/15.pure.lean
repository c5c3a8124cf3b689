/-! plain functions that the contracts speak of -/
def zfold {σ : Type} (f : Int → σ → σ) : Nat → σ → σ
  | 0, s => s
  | n + 1, s => f n (zfold f n s)
def zup (r : Int → Int) (t v : Int) : Int → Int := fun b => if b = t then v else r b
theorem zup_same (r : Int → Int) (t v : Int) : zup r t v t = v := if_pos rfl
theorem zup_ne {r : Int → Int} {t v b : Int} (h : b ≠ t) : zup r t v b = r b := if_neg h
theorem zrow_eta (M : zMem) (i : Int) : zrow M i (M i) = M := by
  funext a
  unfold zrow
  split
  · rename_i h; rw [h]
  · rfl
theorem zu_zrow (M : zMem) (i : Int) (r : Int → Int) (t v : Int) : zu (zrow M i r) i t v = zrow M i (zup r t v) := by
  funext a b
  by_cases h : a = i
  · simp [zu, zrow, zup, h]
  · simp [zu, zrow, h]
theorem zu_row_eq (M : zMem) (i t v : Int) : zu M i t v = zrow M i (zup (M i) t v) := by
  rw [← zu_zrow, zrow_eta]
theorem zu_at {M : zMem} {i j i' j' v : Int} (h1 : i' = i) (h2 : j' = j) : zu M i j v i' j' = v := if_pos ⟨h1, h2⟩
theorem zcpy_ne {M : zMem} {i1 sp i2 dp n a b : Int} (h : a ≠ i2) : zcpy M i1 sp i2 dp n a b = M a b := congrFun (zrow_ne h) b
theorem zup_at {r : Int → Int} {t t' v : Int} (h : t' = t) : zup r t v t' = v := if_pos h
theorem zu_zrow_ne {M : zMem} {a i : Int} {r : Int → Int} {t v : Int} (h : a ≠ i) : zu (zrow M i r) a t v = zrow (zu M a t v) i r := by
  funext x y
  by_cases hx : x = i
  · have h1 : ¬ (x = a ∧ y = t) := fun q => h (q.1.symm.trans hx)
    simp only [zu, zrow, if_neg h1, if_pos hx]
  · simp only [zu, zrow, if_neg hx]
theorem zrow_twice (M : zMem) (i : Int) (r r' : Int → Int) : zrow (zrow M i r) i r' = zrow M i r' := by
  funext a
  unfold zrow
  split <;> rfl
theorem zrows_eta {M : zMem} {i j : Int} (h : j ≠ i) : zrow (zrow M i (M i)) j (M j) = M := by
  rw [zrow_eta, zrow_eta]
/-- the last place below n of which P holds, or -1 -/
def zlast (P : Int → Prop) [DecidablePred P] : Nat → Int
  | 0 => -1
  | n + 1 => if P n then n else zlast P n
/-- does P hold of some place below n -/
def zany (P : Int → Prop) [DecidablePred P] : Nat → Bool
  | 0 => false
  | n + 1 => zany P n || decide (P n)
theorem zany_step {P : Int → Prop} [DecidablePred P] {v w : Int} {k : Nat} (hv : v = zb (zany P k = true)) (h : (w = 1 ∧ (¬ v = 0 ∨ P k)) ∨ (w = 0 ∧ v = 0 ∧ ¬ P k)) : w = zb (zany P (k + 1) = true) := by
  have hd : zany P (k + 1) = (zany P k || decide (P k)) := rfl
  rw [hd]
  rcases h with ⟨rfl, h | h⟩ | ⟨rfl, h, h2⟩
  · have h3 : zany P k = true := by
      rw [hv, zb_0] at h
      exact Decidable.byContradiction h
    rw [zb_t (by rw [h3]; rfl)]
  · rw [zb_t (by simp [h])]
  · have h3 : ¬ zany P k = true := by
      rw [hv, zb_0] at h
      exact h
    rw [zb_f (by simp [h2, h3])]
/-- how many places below n have P -/
def zcnt (P : Int → Prop) [DecidablePred P] : Nat → Int
  | 0 => 0
  | n + 1 => zcnt P n + zb (P n)
/-- shortest delays as the model finds them -/
def zNr (a : Int) : Int → Int := fun j => if j = a then 0 else 1000
def zrx (V : Int → Int) (a b : Int) (q : Int → Int) : Int → Int := fun j => if j = b ∧ 0 < V (8 + 8 * a + b) ∧ q a + V (8 + 8 * a + b) < q b then q a + V (8 + 8 * a + b) else q j
def zrxB (V : Int → Int) (a : Int) : (Int → Int) → (Int → Int) := zfold (fun b q => zrx V a b q) 8
def zrxA (V : Int → Int) : (Int → Int) → (Int → Int) := zfold (fun a q => zrxB V a q) 8
def zBF (V : Int → Int) (a : Int) : Int → Int := zfold (fun _ q => zrxA V q) 8 (zNr a)
theorem zrx_step {V r q : Int → Int} {a b v : Int} (hq : ∀ j, 0 ≤ j → j < 8 → r j = q j) (ha : 0 ≤ a ∧ a < 8) (hb : 0 ≤ b ∧ b < 8) (hv : v = if 0 < V (8 + 8 * a + b) ∧ r a + V (8 + 8 * a + b) < r b then r a + V (8 + 8 * a + b) else r b) : ∀ j, 0 ≤ j → j < 8 → zup r b v j = zrx V a b q j := by
  intro j h0 h1
  have e1 := hq j h0 h1
  have e2 := hq a ha.1 ha.2
  have e3 := hq b hb.1 hb.2
  unfold zup zrx
  by_cases hj : j = b
  · subst hj
    rw [if_pos rfl, hv, ← e2, ← e3]
    by_cases hc : 0 < V (8 + 8 * a + j) ∧ r a + V (8 + 8 * a + j) < r j
    · rw [if_pos hc, if_pos ⟨rfl, hc⟩]
    · rw [if_neg hc, if_neg (fun q => hc q.2)]
  · rw [if_neg hj, if_neg (fun q => hj q.1), e1]
theorem zup_bd {r : Int → Int} {t v lo hi : Int} (h : ∀ j, 0 ≤ j → j < 8 → lo ≤ r j ∧ r j ≤ hi) (hv : lo ≤ v ∧ v ≤ hi) : ∀ j, 0 ≤ j → j < 8 → lo ≤ zup r t v j ∧ zup r t v j ≤ hi := by
  intro j h0 h1
  unfold zup
  split
  · exact hv
  · exact h j h0 h1
theorem zNr_bd (a j : Int) : 0 ≤ zNr a j ∧ zNr a j ≤ 1000 := by
  unfold zNr
  split <;> omega
theorem zNr_step {r : Int → Int} {a v : Int} {k : Nat} (h : ∀ j : Int, 0 ≤ j → j < k → r j = zNr a j) (hv : v = zNr a k) : ∀ j : Int, 0 ≤ j → j < ((k + 1 : Nat) : Int) → zup r k v j = zNr a j := by
  intro j h0 h1
  by_cases hj : j = k
  · subst hj
    rw [zup_same, hv]
  · rw [zup_ne hj]
    exact h j h0 (by omega)
/-- the state before is put behind the past ones; of eight the eldest goes -/
def zpush (M : zMem) : zMem := if M 398 6 = 8 then zu (zcpy (zu (zcpy M 403 1496 403 0 10472) 398 6 (M 398 6 - 1)) 400 0 403 (1496 * (M 398 6 - 1)) 1496) 398 6 ((M 398 6 - 1) + 1) else zu (zcpy M 400 0 403 (1496 * M 398 6) 1496) 398 6 (M 398 6 + 1)
theorem zrow_in {M : zMem} {i j : Int} {v v' r : Int → Int} (h : j ≠ i) : zrow (zrow (zrow M i v) j r) i v' = zrow (zrow M i v') j r := by
  funext a
  unfold zrow
  by_cases h1 : a = j
  · have h2 : a ≠ i := fun q => h (h1.symm.trans q)
    simp only [if_pos h1, if_neg h2]
  · simp only [if_neg h1]
    split <;> rfl
