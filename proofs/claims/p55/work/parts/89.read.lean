/-! a pure reader -/
/-- a digit stands at p of the text T of n signs -/
abbrev zdg (T : Int → Int) (n p : Int) : Prop := p < n ∧ 48 ≤ T p ∧ T p ≤ 57
/-- one sign of a form: q is a place; or a place q' where it no longer fits, as -1 - q' -/
def zst (T : Int → Int) (n c q : Int) : Int :=
  if q < 0 then q else if c = 35 then (if zdg T n q then q + 1 else -1 - q) else if c = 37 then (if zdg T n q then (if zdg T n (q + 1) then q + 2 else q + 1) else -1 - q) else if q < n ∧ T q = c then q + 1 else -1 - q
def zps (q : Int) : Int := if q < 0 then -1 - q else q
def zfs (T : Int → Int) (n : Int) (f : Int → Int) : Nat → Int → Int
  | 0, a => a
  | i + 1, a => zst T n (f (i : Int)) (zfs T n f i a)
def zfw (T : Int → Int) (n : Int) : List Int → Int → Int
  | [], a => a
  | c :: r, a => zfw T n r (zst T n c a)
/-- the number that a sign # or % reads -/
def znv (T : Int → Int) (n c q : Int) : Int := if c = 37 ∧ zdg T n (q + 1) then 10 * (T q - 48) + (T (q + 1) - 48) else T q - 48
def zbh (T : Int → Int) (n p : Int) : Int := if p < n then T p else -1
theorem zps_nn {q : Int} (h : 0 ≤ q) : zps q = q := if_neg (by omega)
theorem zps_ng {q : Int} (h : 0 ≤ q) : zps (-1 - q) = q := by
  unfold zps
  rw [if_pos (by omega)]
  omega
theorem zst_lt {T : Int → Int} {n c q : Int} (h : q < 0) : zst T n c q = q := if_pos h
theorem zst_d {T : Int → Int} {n q : Int} (h : 0 ≤ q) (hd : zdg T n q) : zst T n 35 q = q + 1 := by
  unfold zst
  rw [if_neg (by omega), if_pos rfl, if_pos hd]
theorem zst_d0 {T : Int → Int} {n q : Int} (h : 0 ≤ q) (hd : ¬ zdg T n q) : zst T n 35 q = -1 - q := by
  unfold zst
  rw [if_neg (by omega), if_pos rfl, if_neg hd]
theorem zst_n0 {T : Int → Int} {n q : Int} (h : 0 ≤ q) (hd : ¬ zdg T n q) : zst T n 37 q = -1 - q := by
  unfold zst
  rw [if_neg (by omega), if_neg (by decide), if_pos rfl, if_neg hd]
theorem zst_n1 {T : Int → Int} {n q : Int} (h : 0 ≤ q) (hd : zdg T n q) (he : ¬ zdg T n (q + 1)) : zst T n 37 q = q + 1 := by
  unfold zst
  rw [if_neg (by omega), if_neg (by decide), if_pos rfl, if_pos hd, if_neg he]
theorem zst_n2 {T : Int → Int} {n q : Int} (h : 0 ≤ q) (hd : zdg T n q) (he : zdg T n (q + 1)) : zst T n 37 q = q + 2 := by
  unfold zst
  rw [if_neg (by omega), if_neg (by decide), if_pos rfl, if_pos hd, if_pos he]
theorem zst_s1 {T : Int → Int} {n c q : Int} (h : 0 ≤ q) (h1 : c ≠ 35) (h2 : c ≠ 37) (hd : q < n ∧ T q = c) : zst T n c q = q + 1 := by
  unfold zst
  rw [if_neg (by omega), if_neg h1, if_neg h2, if_pos hd]
theorem zst_s0 {T : Int → Int} {n c q : Int} (h : 0 ≤ q) (h1 : c ≠ 35) (h2 : c ≠ 37) (hd : ¬ (q < n ∧ T q = c)) : zst T n c q = -1 - q := by
  unfold zst
  rw [if_neg (by omega), if_neg h1, if_neg h2, if_neg hd]
theorem zst_bd {T : Int → Int} {n c q : Int} (h0 : 0 ≤ zps q) (h1 : zps q ≤ n) : zps q ≤ zps (zst T n c q) ∧ zps (zst T n c q) ≤ n := by
  by_cases a : q < 0
  · rw [zst_lt a]
    omega
  · have e := zps_nn (show 0 ≤ q by omega)
    have e2 := zps_ng (show 0 ≤ q by omega)
    rw [e] at h1 ⊢
    by_cases c1 : c = 35
    · subst c1
      by_cases d : zdg T n q
      · rw [zst_d (by omega) d, zps_nn (by omega)]
        have := d.1
        omega
      · rw [zst_d0 (by omega) d]
        omega
    · by_cases c2 : c = 37
      · subst c2
        by_cases d : zdg T n q
        · have := d.1
          by_cases d2 : zdg T n (q + 1)
          · rw [zst_n2 (by omega) d d2, zps_nn (by omega)]
            have := d2.1
            omega
          · rw [zst_n1 (by omega) d d2, zps_nn (by omega)]
            omega
        · rw [zst_n0 (by omega) d]
          omega
      · by_cases d : q < n ∧ T q = c
        · rw [zst_s1 (by omega) c1 c2 d, zps_nn (by omega)]
          omega
        · rw [zst_s0 (by omega) c1 c2 d]
          omega
theorem zfw_lt {T : Int → Int} {n : Int} : ∀ (l : List Int) {q : Int}, q < 0 → zfw T n l q = q
  | [], _, _ => rfl
  | c :: r, q, h => by
    show zfw T n r (zst T n c q) = q
    rw [zst_lt h]
    exact zfw_lt r h
theorem zfw_bd {T : Int → Int} {n : Int} : ∀ (l : List Int) {q : Int}, 0 ≤ zps q → zps q ≤ n → zps q ≤ zps (zfw T n l q) ∧ zps (zfw T n l q) ≤ n
  | [], q, _, h => ⟨Int.le_refl _, h⟩
  | c :: r, q, h0, h1 => by
    have a := zst_bd (T := T) (n := n) (c := c) h0 h1
    have b := zfw_bd (T := T) (n := n) r (q := zst T n c q) (by omega) (by omega)
    show zps q ≤ zps (zfw T n r (zst T n c q)) ∧ zps (zfw T n r (zst T n c q)) ≤ n
    omega
theorem zfs_bd {T : Int → Int} {n : Int} {f : Int → Int} (i : Nat) {q : Int} (h0 : 0 ≤ zps q) (h1 : zps q ≤ n) : zps q ≤ zps (zfs T n f i q) ∧ zps (zfs T n f i q) ≤ n := by
  induction i with
  | zero => exact ⟨Int.le_refl _, h1⟩
  | succ i ih =>
    have a := zst_bd (T := T) (n := n) (c := f (i : Int)) (q := zfs T n f i q) (by omega) (by omega)
    show zps q ≤ zps (zst T n (f (i : Int)) (zfs T n f i q)) ∧ zps (zst T n (f (i : Int)) (zfs T n f i q)) ≤ n
    omega
theorem zfs_stuck {T : Int → Int} {n : Int} {f : Int → Int} {a : Int} {i : Nat} (h : zfs T n f i a < 0) : ∀ j : Nat, i ≤ j → zfs T n f j a = zfs T n f i a := by
  intro j hj
  induction j with
  | zero =>
    have e : i = 0 := by omega
    subst e
    rfl
  | succ j ih =>
    by_cases e : i = j + 1
    · rw [e]
    · have q := ih (by omega)
      show zst T n (f (j : Int)) (zfs T n f j a) = _
      rw [q, zst_lt h]
theorem zfw_snoc {T : Int → Int} {n : Int} (l : List Int) (c : Int) : ∀ q : Int, zfw T n (l ++ [c]) q = zst T n c (zfw T n l q) := by
  induction l with
  | nil => intro q; rfl
  | cons x r ih => intro q; exact ih (zst T n x q)
theorem zfw_app {T : Int → Int} {n : Int} (l r : List Int) : ∀ q : Int, zfw T n (l ++ r) q = zfw T n r (zfw T n l q) := by
  induction l with
  | nil => intro q; rfl
  | cons x l ih => intro q; exact ih (zst T n x q)
/-- the signs of a text constant -/
def ztl (q : Int × Int × List Int32) : List Int := q.2.2.map Int32.toInt
theorem ztl_at {q : Int × Int × List Int32} {i : Nat} (h : i < q.2.2.length) : (ztl q).take (i + 1) = (ztl q).take i ++ [ztx q (i : Int)] := by
  have h2 : i < (ztl q).length := by rw [ztl, List.length_map]; exact h
  rw [List.take_succ_eq_append_getElem h2]
  congr 2
  unfold ztx
  rw [Int.toNat_natCast, List.getD_eq_getElem?_getD, List.getElem?_eq_getElem h]
  simp [ztl]
theorem zfs_take {T : Int → Int} {n : Int} {q : Int × Int × List Int32} {a : Int} : ∀ i : Nat, i ≤ q.2.2.length → zfs T n (ztx q) i a = zfw T n ((ztl q).take i) a := by
  intro i hi
  induction i with
  | zero => rfl
  | succ i ih =>
    rw [ztl_at (by omega), zfw_snoc, ← ih (by omega)]
    rfl
theorem zfs_all {T : Int → Int} {n : Int} {q : Int × Int × List Int32} {a : Int} : zfs T n (ztx q) q.2.2.length a = zfw T n (ztl q) a := by
  rw [zfs_take _ (Nat.le_refl _), List.take_of_length_le]
  rw [ztl, List.length_map]
  exact Nat.le_refl _
/-- the model's reader: place and 'is wrong' -/
def zsp (M : zMem) (q : Int) : zMem := zu (zu M 398 14 (zb (q < 0))) 398 13 (zps q)
theorem zsp_row {M : zMem} {q i : Int} (h : i ≠ 398) (j : Int) : zsp M q i j = M i j := by
  unfold zsp
  rw [zu_ne (by omega), zu_ne (by omega)]
theorem zsp_398 {M : zMem} {q j : Int} (h : j ≠ 13) (h2 : j ≠ 14) : zsp M q 398 j = M 398 j := by
  unfold zsp
  rw [zu_ne (by omega), zu_ne (by omega)]
theorem zsp_13 {M : zMem} {q : Int} : zsp M q 398 13 = zps q := zu_same _ _ _ _
theorem zsp_14 {M : zMem} {q : Int} : zsp M q 398 14 = zb (q < 0) := by
  unfold zsp
  rw [zu_ne (by omega), zu_same]
theorem zsp_of {M M' : zMem} {q : Int} (h1 : M' 398 13 = zps q) (h2 : M' 398 14 = zb (q < 0)) (h3 : ∀ i j, ¬ (i = 398 ∧ (j = 13 ∨ j = 14)) → M' i j = M i j) : zsp M q = M' := by
  funext i j
  by_cases a : i = 398 ∧ j = 13
  · rw [a.1, a.2, zsp_13, h1]
  · by_cases b : i = 398 ∧ j = 14
    · rw [b.1, b.2, zsp_14, h2]
    · rw [h3 i j (by omega)]
      unfold zsp
      rw [zu_ne (by omega), zu_ne (by omega)]
theorem zsp_zsp {M : zMem} {q r : Int} : zsp (zsp M q) r = zsp M r :=
  (zsp_of zsp_13 zsp_14 (fun i j h => by
    by_cases a : i = 398
    · subst a
      rw [zsp_398 (by omega) (by omega), zsp_398 (by omega) (by omega)]
    · rw [zsp_row a, zsp_row a])).symm
/-- the model's reader stands at q in the text T of n signs -/
def zPS (T : Int → Int) (n q : Int) (M : zMem) : Prop := M 406 = T ∧ M 398 12 = n ∧ (0 ≤ n ∧ n ≤ 60) ∧ M 398 13 = zps q ∧ M 398 14 = zb (q < 0) ∧ (0 ≤ zps q ∧ zps q ≤ n)
theorem zPS_self {T : Int → Int} {n q : Int} {M : zMem} (h : zPS T n q M) : zsp M q = M := zsp_of h.2.2.2.1 h.2.2.2.2.1 (fun _ _ _ => rfl)
theorem zPS_sp {T : Int → Int} {n q r : Int} {M : zMem} (h : zPS T n q M) (h0 : 0 ≤ zps r ∧ zps r ≤ n) : zPS T n r (zsp M r) :=
  ⟨(funext fun j => zsp_row (by decide) j).trans h.1, (zsp_398 (by decide) (by decide)).trans h.2.1, h.2.2.1, zsp_13, zsp_14, h0⟩
theorem zPS_zu {T : Int → Int} {n q i j v : Int} {M : zMem} (h : zPS T n q M) (h1 : i ≠ 406) (h2 : ¬ (i = 398 ∧ (j = 12 ∨ j = 13 ∨ j = 14))) : zPS T n q (zu M i j v) :=
  ⟨(zu_row (by omega)).trans h.1, (zu_ne (by omega)).trans h.2.1, h.2.2.1, (zu_ne (by omega)).trans h.2.2.2.1, (zu_ne (by omega)).trans h.2.2.2.2.1, h.2.2.2.2.2⟩
theorem zPS_14 {T : Int → Int} {n q r v : Int} {M : zMem} (h : zPS T n q M) (h1 : zps r = zps q) (h2 : v = zb (r < 0)) : zPS T n r (zu M 398 14 v) :=
  ⟨(zu_row (by omega)).trans h.1, (zu_ne (by omega)).trans h.2.1, h.2.2.1, (zu_ne (by omega)).trans (h.2.2.2.1.trans h1.symm), (zu_same _ _ _ _).trans h2, by rw [h1]; exact h.2.2.2.2.2⟩
theorem zPS_13 {T : Int → Int} {n q v : Int} {M : zMem} (h : zPS T n q M) (h0 : 0 ≤ q) (h1 : q + 1 ≤ n) (h2 : v = q + 1) : zPS T n (q + 1) (zu M 398 13 v) :=
  ⟨(zu_row (by omega)).trans h.1, (zu_ne (by omega)).trans h.2.1, h.2.2.1, (zu_same _ _ _ _).trans (by rw [zps_nn (by omega)]; exact h2), (zu_ne (by omega)).trans (by rw [h.2.2.2.2.1, zb_f (by omega), zb_f (by omega)]), by rw [zps_nn (by omega)]; omega⟩
theorem zdg_bh {T : Int → Int} {n p : Int} : (48 ≤ zbh T n p ∧ zbh T n p ≤ 57) ↔ zdg T n p := by
  unfold zbh zdg
  by_cases h : p < n
  · rw [if_pos h]
    exact ⟨fun q => ⟨h, q⟩, fun q => q.2⟩
  · rw [if_neg h]
    exact ⟨fun q => by omega, fun q => absurd q.1 h⟩
theorem zbh_is {T : Int → Int} {n p c : Int} (hc : 0 ≤ c) : zbh T n p = c ↔ (p < n ∧ T p = c) := by
  unfold zbh
  by_cases h : p < n
  · rw [if_pos h]
    exact ⟨fun q => ⟨h, q⟩, fun q => q.2⟩
  · rw [if_neg h]
    exact ⟨fun q => by omega, fun q => absurd q.1 h⟩
