/-! small facts of plain functions -/
theorem zfill_lo {V : Int → Int} {n : Int} (k : Nat) {j : Int} (hj : j < 96) (hn : 0 ≤ n) : zfold (fun k W => zup W (96 + 47 * n + k) 0) k V j = V j := by
  refine zfold_ind (fun _ (W : Int → Int) => W j = V j) rfl (fun k W _ h => ?_)
  show zup W _ _ j = V j
  rw [zup_ne (by omega)]
  exact h
theorem zlast_bd {P : Int → Prop} [DecidablePred P] : ∀ n : Nat, -1 ≤ zlast P n ∧ zlast P n < n
  | 0 => ⟨Int.le_refl _, by show (-1 : Int) < 0; decide⟩
  | n + 1 => by
    have h := zlast_bd (P := P) n
    have hd : zlast P (n + 1) = if P n then (n : Int) else zlast P n := rfl
    rw [hd]
    split <;> omega
theorem zfo_mem {M : zMem} {p : Int} : zcpy (zrow M 399 (zup (M 399) 2 (M 399 2 - 1))) 399 (96 + 47 * p + 47) 399 (96 + 47 * p) (47 * (M 399 2 - 1 - p)) = zrow M 399 (zdFoR p (M 399)) := by
  unfold zcpy
  rw [zrow_twice]
  simp only [zrow_same]
  rfl
theorem zdFoR_2 {p : Int} {V : Int → Int} (hp : 0 ≤ p) : zdFoR p V 2 = V 2 - 1 := by
  unfold zdFoR
  rw [if_neg (by omega), zup_same]
def zsr (p : Int) (V : Int → Int) (k : Int) : Prop := zTks k.toNat V (96 + 47 * p + 4) = 114
def zudn (p : Int) (V : Int → Int) : Int := @zfst (zsr p V) (fun k => by unfold zsr; exact inferInstance) 61
def zdUD (id : Int) (V : Int → Int) : zO :=
  if zpl id V < 0 then (1, 0, V) else if V (96 + 47 * zpl id V + 4) = 114 ∨ V (96 + 47 * zpl id V + 4) = 108 then (2, 0, V)
  else if zudn (zpl id V) V < 0 then (3, 0, V) else (0, zudn (zpl id V) V, V)
theorem zudn_is {p : Int} {V : Int → Int} {k : Nat} (hk : (k : Int) ≤ 60) (h : ∀ q : Int, 0 ≤ q → q < k → ¬ zsr p V q) : (zsr p V k → zudn p V = k) ∧ (k = 60 → ¬ zsr p V k → zudn p V = -1) := by
  have h1 := @zfst_F1 (zsr p V) (fun k => by unfold zsr; exact inferInstance) 61
  constructor
  · intro hs
    exact zF1_one h1 (Or.inr ⟨by omega, by show (k : Int) < ((61 : Nat) : Int); omega, hs, h⟩) (Int.le_refl 0)
  · intro e hs
    refine zF1_one h1 (Or.inl ⟨rfl, fun q h0 h2 => ?_⟩) (Int.le_refl 0)
    by_cases hq : q = k
    · rw [hq]; exact hs
    · exact h q h0 (by have : q < ((61 : Nat) : Int) := h2; omega)
theorem zsr_step {p : Int} {V W : Int → Int} {k : Nat} (hv : W = zTks k V) (hn : ¬ W (96 + 47 * p + 4) = 114) (hq : ∀ q : Int, 0 ≤ q → q < k → ¬ zsr p V q) : ∀ q : Int, 0 ≤ q → q < ((k + 1 : Nat) : Int) → ¬ zsr p V q := by
  intro q h0 h1
  by_cases hqk : q = k
  · rw [hqk]
    unfold zsr
    rw [Int.toNat_natCast, ← hv]
    exact hn
  · exact hq q h0 (by omega)
/-- what a question answers: which exception (0 for none), and its answer -/
abbrev zQu : Type := Int × Int
def zqTD (a b : Int) (V : Int → Int) : zQu := if ¬ (zisC V a ∧ zisC V b) then (1, 0) else if V (8 + 8 * a + b) = 0 then (2, 0) else (0, V (8 + 8 * a + b))
def zqSD (a b : Int) (V : Int → Int) : zQu := if ¬ (zisC V a ∧ zisC V b) then (1, 0) else if zBF V a b = 1000 then (2, 0) else (0, zBF V a b)
def zqH (h w : Int) (V : Int → Int) : zQu := if ¬ zisH V h then (1, 0) else (0, V (72 + 4 * h + w))
def zqLi (h : Int) (V : Int → Int) : zQu := if ¬ zisH V h then (1, 0) else (0, zb (V (72 + 4 * h + 1) = 1))
def zqDr (h : Int) (V : Int → Int) : zQu := if ¬ zisH V h then (1, 0) else (0, zb (zdrm V h))
def zqLa (h : Int) (V : Int → Int) : zQu := if ¬ zisH V h then (1, 0) else if V (72 + 4 * h + 3) = 0 then (2, 0) else (0, V (72 + 4 * h + 3) - 1)
/-- how many hares stand before one -/
def zah (V : Int → Int) (a : Int) (n : Nat) : Int := zcnt (fun q => 0 < V (72 + 4 * q + 2) - V (72 + 4 * a + 2) ∨ (V (72 + 4 * q + 2) - V (72 + 4 * a + 2) = 0 ∧ q < a)) n
def zhr (k : Int) (V : Int → Int) (n : Nat) : Int := zfold (fun a f => if zah V a (V 1).toNat = k then a else f) n 0
def zqHR (k : Int) (V : Int → Int) : zQu := if ¬ zisH V k then (1, 0) else (0, zhr k V (V 1).toNat)
def zqMs (p : Int) (V : Int → Int) : zQu := if ¬ (0 ≤ p ∧ p < V 2) then (1, 0) else (0, V (96 + 47 * p + 0))
def zqT (id w : Int) (V : Int → Int) : zQu := if zpl id V < 0 then (1, 0) else (0, V (96 + 47 * zpl id V + w))
def zqTh (n b : Int) : zQu := if ¬ (0 ≤ n ∧ n ≤ 15) then (1, 0) else if ¬ (0 ≤ b ∧ b ≤ 4) then (2, 0) else (0, zb (zbt n b = 1))
def zqDe (k : Int) : zQu := if ¬ (0 ≤ k ∧ k ≤ 31) then (1, 0) else if ¬ zbt (k / 2) 4 = k % 2 then (2, 0) else (0, k / 2)
def zqHd (c t : Int) (V : Int → Int) : zQu := if ¬ zisC V c then (1, 0) else if ¬ (V 4 - 20 ≤ t ∧ t ≤ V 4 + 80) then (2, 0) else (0, V (472 + 128 * c + t % 128))
/-- a call that changes nothing but remembers whether it failed -/
def zFL (M : zMem) (k : Int) : zMem := zrow (zu (zrow (zu M 398 8 0) 400 (M 399)) 398 8 k) 399 (M 399)
def zOK (M : zMem) (r : Int → Int) : zMem := zpush (zrow (zrow (zu M 398 8 0) 400 (M 399)) 399 r)
