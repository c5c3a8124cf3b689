/-! whole ticks keep it -/
abbrev zP0 (V : Int → Int) : Prop := zPk (fun _ => 0) V
theorem zPk_f {f f' V : Int → Int} (h : zPk f V) (hf : ∀ p, 0 ≤ p → p < V 2 → V (96 + 47 * p + 4) = 100 → f' p = f p) : zPk f' V := by
  obtain ⟨a1, a2, a3, a4, a5, a6, a7⟩ := h
  refine ⟨a1, a2, fun p q c p0 p1 hp q0 q1 hz hc => ?_, a4, a5, a6, a7⟩
  rw [hf p p0 p1 hp]
  exact a3 p q c p0 p1 hp q0 q1 hz hc
theorem zBegK_pk {t : Int} {V : Int → Int} (hI : zIV t V) (h : zP0 V) : ∀ k : Nat, zP0 (zfold (fun c W => zBeg1 c W) k V)
  | 0 => h
  | k + 1 => zPk_beg (zBegK_keep hI k).1 (zBegK_pk hI h k)
theorem zTkB_pk {t : Int} {A : Int → Int} (hI : zIV t A) (hd : zTD A) (h : zP0 A) : ∀ k : Nat, (k : Int) ≤ A 2 → zPk (fun p => if p < (k : Int) then 1 else 0) (zfold (fun p W => if W (96 + 47 * p + 4) = 100 then zDr p W else W) k A)
  | 0, _ => zPk_f h (fun p p0 _ _ => if_neg (by omega))
  | k + 1, hk => by
    obtain ⟨i1, i2, i3⟩ := zTkB_keep hI hd k (by omega)
    have ih := zTkB_pk hI hd h k (by omega)
    have e2 := i2 2 (by decide) (by decide)
    show zPk _ (if _ then _ else _)
    split
    · rename_i hs
      exact zPk_dr i1 ih ⟨by omega, by omega⟩ hs (i3 k (by omega) (by omega) hs) (if_neg (by omega)) (if_pos (by omega)) (fun q hq => by
        show (if q < ((k + 1 : Nat) : Int) then (1 : Int) else 0) = if q < (k : Int) then 1 else 0
        by_cases e : q < (k : Int)
        · rw [if_pos e, if_pos (by omega)]
        · rw [if_neg e, if_neg (by omega)])
    · rename_i hs
      refine zPk_f ih (fun p p0 p1 hp => ?_)
      have hne : p ≠ (k : Int) := fun z => hs (by rw [← z]; exact hp)
      show (if p < ((k + 1 : Nat) : Int) then (1 : Int) else 0) = if p < (k : Int) then 1 else 0
      by_cases e : p < (k : Int)
      · rw [if_pos e, if_pos (by omega)]
      · rw [if_neg e, if_neg (by omega)]
theorem zTkC_pk {t : Int} {f B : Int → Int} (hI : zIV t B) (h : zPk f B) : ∀ k : Nat, (k : Int) ≤ B 2 → zPk f (zfold (fun p W => if W (96 + 47 * p + 4) = 100 ∧ W (96 + 47 * p + 6) = 5 then zDe p W else W) k B)
  | 0, _ => h
  | k + 1, hk => by
    obtain ⟨i1, i2, i3⟩ := zTkC_keep hI k (by omega)
    have ih := zTkC_pk hI h k (by omega)
    have e2 := i2 2 (by decide) (by decide) (by decide)
    show zPk f (if _ then _ else _)
    split
    · exact zPk_de i1 ih ⟨by omega, by omega⟩
    · exact ih
theorem zTick_pk {t : Int} {V : Int → Int} (hI : zIV t V) (hd : zTD V) (h : zP0 V) : zP0 (zTick V) := by
  have h2 := hI.2.2.1
  obtain ⟨b1, b2, b3⟩ := zBegs_keep hI hd
  have hA : zP0 (zBegs V) := zBegK_pk hI h (V 0).toNat
  have eA := b3 2 (by decide)
  obtain ⟨c1, c2, -⟩ := zTkB_keep b1 b2 (zBegs V 2).toNat (by omega)
  have hB := zTkB_pk b1 b2 hA (zBegs V 2).toNat (by omega)
  have eB : zTkB (zBegs V) 2 = zBegs V 2 := c2 2 (by decide) (by decide)
  have hB2 : zPk (fun _ => 1) (zTkB (zBegs V)) := zPk_f hB (fun p p0 p1 _ => by
    show (1 : Int) = if p < (((zBegs V 2).toNat : Nat) : Int) then 1 else 0
    have p1' : p < zBegs V 2 := by rw [← eB]; exact p1
    rw [if_pos (by omega)])
  have c1' : zIV (t + (zBegs V 2).toNat) (zTkB (zBegs V)) := c1
  obtain ⟨d1, -, -⟩ := zTkC_keep c1' (zTkB (zBegs V) 2).toNat (by omega)
  exact zPk_tkD d1 (zTkC_pk c1' hB2 (zTkB (zBegs V) 2).toNat (by omega))
theorem zTks_pk {t : Int} {V : Int → Int} (hI : zIV t V) (hd : zTD V) (h : zP0 V) (k : Nat) : zP0 (zTks k V) := by
  induction k with
  | zero => exact h
  | succ k ih =>
    obtain ⟨a, b, -, -⟩ := zTks_keep hI hd k
    exact zTick_pk a b ih
/-! what the loops of a tick in the class write -/
theorem zrr_1 {M : zMem} {i j : Int} {v1 v2 : Int → Int} {a x : Int} (h : i ≠ j) : zu (zrow (zrow M i v1) j v2) i a x = zrow (zrow M i (zup v1 a x)) j v2 := by
  rw [zu_zrow_ne h, zu_zrow]
theorem zrr_3 {M : zMem} {i j : Int} {v1 v2 : Int → Int} {c : Int} : zu (zrow (zrow M i v1) j v2) j c ((zrow (zrow M i v1) j v2) j c + 1) = zrow (zrow M i v1) j (zup v2 c (v2 c + 1)) := by
  rw [zu_zrow, zrow_same]
theorem zth1_step {n V4 v : Int} {k : Nat} {r dl m : Int → Int} (h : ∀ q c, 0 ≤ q → q < 5 → zc8 c → r (8 * q + c) = if q = n ∧ c < (k : Int) then (if dl c < 1000 then V4 + dl c else -1) else m (8 * q + c)) (hn : 0 ≤ n ∧ n < 5) (hk : (k : Int) < 8) (hv : v = if dl k < 1000 then V4 + dl k else -1) : ∀ q c, 0 ≤ q → q < 5 → zc8 c → zup r (n * 8 + k) v (8 * q + c) = if q = n ∧ c < ((k + 1 : Nat) : Int) then (if dl c < 1000 then V4 + dl c else -1) else m (8 * q + c) := by
  intro q c q0 q1 hc
  have c0 := hc.1
  have c1 := hc.2
  by_cases e : 8 * q + c = n * 8 + k
  · have e1 : q = n := by omega
    have e2 : c = k := by omega
    rw [zup_at e, if_pos ⟨e1, by omega⟩, hv, e2]
  · rw [zup_ne e, h q c q0 q1 hc]
    by_cases e3 : q = n ∧ c < (k : Int)
    · rw [if_pos e3, if_pos (show q = n ∧ c < ((k + 1 : Nat) : Int) from ⟨e3.1, by omega⟩)]
    · rw [if_neg e3, if_neg (show ¬ (q = n ∧ c < ((k + 1 : Nat) : Int)) by omega)]
theorem zth2_no {V4 : Int} {k : Nat} {r dl m : Int → Int} (h : ∀ c x, zc8 c → 0 ≤ x → x < 128 → r (128 * c + x) = m (128 * c + x) + (if c < (k : Int) ∧ dl c < 1000 ∧ x = (V4 + dl c) % 128 then 1 else 0)) (hd : ¬ dl k < 1000) : ∀ c x, zc8 c → 0 ≤ x → x < 128 → r (128 * c + x) = m (128 * c + x) + (if c < ((k + 1 : Nat) : Int) ∧ dl c < 1000 ∧ x = (V4 + dl c) % 128 then 1 else 0) := by
  intro c x hc x0 x1
  rw [h c x hc x0 x1]
  by_cases e : c = k
  · subst e
    rw [if_neg (fun z => by omega), if_neg (fun z => hd z.2.1)]
  · by_cases e3 : c < (k : Int) ∧ dl c < 1000 ∧ x = (V4 + dl c) % 128
    · rw [if_pos e3, if_pos ⟨by omega, e3.2⟩]
    · rw [if_neg e3, if_neg (fun z => e3 ⟨by omega, z.2⟩)]
theorem zth2_step {V4 t : Int} {k : Nat} {r dl m : Int → Int} (h : ∀ c x, zc8 c → 0 ≤ x → x < 128 → r (128 * c + x) = m (128 * c + x) + (if c < (k : Int) ∧ dl c < 1000 ∧ x = (V4 + dl c) % 128 then 1 else 0)) (hd : dl k < 1000) (hk : (k : Int) < 8) (ht : t = (k : Int) * 128 + (V4 + dl k) % 128) : ∀ c x, zc8 c → 0 ≤ x → x < 128 → zup r t (r t + 1) (128 * c + x) = m (128 * c + x) + (if c < ((k + 1 : Nat) : Int) ∧ dl c < 1000 ∧ x = (V4 + dl c) % 128 then 1 else 0) := by
  intro c x hc x0 x1
  have c0 := hc.1
  have c1 := hc.2
  by_cases e : 128 * c + x = t
  · have e1 : c = k := by omega
    have e2 : x = (V4 + dl k) % 128 := by omega
    rw [zup_at e, ← e, h c x hc x0 x1, if_neg (fun z => by omega), if_pos ⟨by omega, by rw [e1]; exact hd, by rw [e1]; exact e2⟩]
    omega
  · rw [zup_ne e, h c x hc x0 x1]
    by_cases e3 : c < (k : Int) ∧ dl c < 1000 ∧ x = (V4 + dl c) % 128
    · rw [if_pos e3, if_pos ⟨by omega, e3.2⟩]
    · rw [if_neg e3, if_neg (fun z => ?_)]
      by_cases e4 : c = k
      · exact e (by rw [ht, e4, z.2.2, e4]; omega)
      · exact e3 ⟨by omega, z.2⟩
theorem zRB_3 {b o : Int} {V v1 v2 : Int → Int} {M : zMem} (h : zRB b V M) (ho : zMo b o) : zRB b V (zrow (zrow M (o + 1) v1) (b + 8) v2) := by
  have hbd := zMo_bd ho
  refine ⟨?_, fun i h0 h1 => ?_, fun a c ha hc => ?_⟩
  · rw [zrow_ne (by omega), zrow_ne (by omega)]
    exact h.1
  · rw [zrow_ne (by omega), zrow_ne (by omega)]
    exact h.2.1 i h0 h1
  · rw [zrow_ne (by omega), zrow_ne (by omega)]
    exact h.2.2 a c ha hc
