/-! more of what holds of a state at rest -/
def zVr (V : Int → Int) : Prop := ∀ p, 0 ≤ p → p < V 2 → V (96 + 47 * p + 1) ≠ V (96 + 47 * p + 2)
def zVl (V : Int → Int) : Prop := ∀ p, 0 ≤ p → p < V 2 → (V (96 + 47 * p + 4) = 108 ↔ V (96 + 47 * p + 5) = 3)
def zVb (f : Int → Int) (V : Int → Int) : Prop := ∀ p, 0 ≤ p → p < V 2 → (V (96 + 47 * p + 4) = 100 → f p ≤ V (96 + 47 * p + 6)) ∧ (V (96 + 47 * p + 4) ≠ 100 → V (96 + 47 * p + 6) = 0)
/-- how many messages the first hares have received -/
def zSr (V : Int → Int) (n : Nat) : Int := zfold (fun h c => c + V (72 + 4 * h + 2)) n 0
def zVs (V : Int → Int) : Prop := zSr V (V 1).toNat = V 6
def zNv (f : Int → Int) (V : Int → Int) : Prop := zVr V ∧ zVl V ∧ zVb f V ∧ zVs V
theorem zSr_c {V V' : Int → Int} : ∀ n : Nat, (∀ h, 0 ≤ h → h < (n : Int) → V' (72 + 4 * h + 2) = V (72 + 4 * h + 2)) → zSr V' n = zSr V n
  | 0, _ => rfl
  | n + 1, e => by
    show zSr V' n + V' (72 + 4 * (n : Int) + 2) = zSr V n + V (72 + 4 * (n : Int) + 2)
    rw [zSr_c n (fun h h0 h1 => e h h0 (by omega)), e n (by omega) (by omega)]
theorem zNv_c {f V V' : Int → Int} (h : zNv f V) (e1 : V' 1 = V 1) (e2 : V' 2 = V 2) (e6 : V' 6 = V 6) (eh : ∀ h, 0 ≤ h → h < V 1 → V' (72 + 4 * h + 2) = V (72 + 4 * h + 2)) (em : ∀ p k, 0 ≤ p → p < V 2 → 1 ≤ k → k < 7 → V' (96 + 47 * p + k) = V (96 + 47 * p + k)) : zNv f V' := by
  obtain ⟨a, b, c, d⟩ := h
  refine ⟨fun p p0 p1 => ?_, fun p p0 p1 => ?_, fun p p0 p1 => ?_, ?_⟩
  · rw [e2] at p1
    rw [em p 1 p0 p1 (by omega) (by omega), em p 2 p0 p1 (by omega) (by omega)]
    exact a p p0 p1
  · rw [e2] at p1
    rw [em p 4 p0 p1 (by omega) (by omega), em p 5 p0 p1 (by omega) (by omega)]
    exact b p p0 p1
  · rw [e2] at p1
    rw [em p 4 p0 p1 (by omega) (by omega), em p 6 p0 p1 (by omega) (by omega)]
    exact c p p0 p1
  · show zSr V' (V' 1).toNat = V' 6
    rw [e1, e6, zSr_c _ (fun h h0 h1 => eh h h0 (by omega))]
    exact d
theorem zNv_f {f f' V : Int → Int} (h : zNv f V) (hf : ∀ p, 0 ≤ p → p < V 2 → V (96 + 47 * p + 4) = 100 → f p ≤ V (96 + 47 * p + 6) → f' p ≤ V (96 + 47 * p + 6)) : zNv f' V :=
  ⟨h.1, h.2.1, fun p p0 p1 => ⟨fun q => hf p p0 p1 q ((h.2.2.1 p p0 p1).1 q), (h.2.2.1 p p0 p1).2⟩, h.2.2.2⟩
theorem zNv_beg {t c : Int} {V : Int → Int} (hI : zIV t V) (h : zNv (fun _ => 0) V) : zNv (fun _ => 0) (zBeg1 c V) := by
  unfold zBeg1
  split
  · exact h
  · rename_i hc
    have hf := zBf_in c (fun q => hc (Or.inr q)) hI.2.2.1.1
    obtain ⟨f0, f1, -, f3⟩ := hf
    generalize zBf c V = u at *
    obtain ⟨a, b, d, e⟩ := h
    have hM := (hI.2.2.2.2.2.2.1 u f0 f1).2.2.2.2.2.2.1 (Or.inl f3)
    have eo : ∀ i, i ≠ 96 + 47 * u + 4 → i ≠ 96 + 47 * u + 6 → zup (zup V (96 + 47 * u + 4) 100) (96 + 47 * u + 6) 0 i = V i := fun i h1 h2 => by rw [zup_ne h2, zup_ne h1]
    have e4 : zup (zup V (96 + 47 * u + 4) 100) (96 + 47 * u + 6) 0 (96 + 47 * u + 4) = 100 := by rw [zup_ne (by omega), zup_same]
    have e6 : zup (zup V (96 + 47 * u + 4) 100) (96 + 47 * u + 6) 0 (96 + 47 * u + 6) = 0 := zup_same _ _ _
    generalize zup (zup V (96 + 47 * u + 4) 100) (96 + 47 * u + 6) 0 = V' at *
    have e2 := eo 2 (by omega) (by omega)
    refine ⟨fun p p0 p1 => ?_, fun p p0 p1 => ?_, fun p p0 p1 => ?_, ?_⟩
    · rw [e2] at p1
      rw [eo _ (by omega) (by omega), eo _ (by omega) (by omega)]
      exact a p p0 p1
    · rw [e2] at p1
      rw [eo (96 + 47 * p + 5) (by omega) (by omega)]
      by_cases hp : p = u
      · rw [hp, e4]
        omega
      · rw [eo (96 + 47 * p + 4) (by omega) (by omega)]
        exact b p p0 p1
    · rw [e2] at p1
      by_cases hp : p = u
      · rw [hp, e4, e6]
        exact ⟨fun _ => Int.le_refl 0, fun q => absurd rfl q⟩
      · rw [eo (96 + 47 * p + 4) (by omega) (by omega), eo (96 + 47 * p + 6) (by omega) (by omega)]
        exact d p p0 p1
    · show zSr V' (V' 1).toNat = V' 6
      have h16 := hI.2.1.2
      rw [eo 1 (by omega) (by omega), eo 6 (by omega) (by omega), zSr_c _ (fun h h0 h1 => eo _ (by omega) (by omega))]
      exact e
theorem zNv_begK {t : Int} {V : Int → Int} (hI : zIV t V) (h : zNv (fun _ => 0) V) (k : Nat) : zNv (fun _ => 0) (zfold (fun c W => zBeg1 c W) k V) := by
  have : zIV t (zfold (fun c W => zBeg1 c W) k V) ∧ zNv (fun _ => 0) (zfold (fun c W => zBeg1 c W) k V) := zfold_ind (fun _ W => zIV t W ∧ zNv (fun _ => 0) W) ⟨hI, h⟩ (fun q W _ ⟨a, b⟩ => ⟨zIV_beg1 a, zNv_beg a b⟩)
  exact this.2
theorem zDr_6 {t p : Int} {V : Int → Int} (h : zIV t V) (hp : 0 ≤ p ∧ p < V 2) (hd : V (96 + 47 * p + 6) ≤ 4) : zDr p V (96 + 47 * p + 6) = V (96 + 47 * p + 6) + 1 := by
  have hM := (h.2.2.2.2.2.2.1 p hp.1 hp.2).2.2.2.2.2.2.2.1
  have h8 := h.1.2
  have h82 := h.2.2.1.2
  unfold zDr
  split
  · exact zup_same _ _ _
  · have e : zDr2 p V (96 + 47 * p + 6) = V (96 + 47 * p + 6) + 1 := by
      unfold zDr2 zDr1
      rw [zup_ne (by omega), zup_same]
    rw [← e]
    refine zfold_ind (fun (_ : Nat) (W : Int → Int) => W (96 + 47 * p + 6) = zDr2 p V (96 + 47 * p + 6)) rfl (fun q W hq a => ?_)
    rw [← a]
    have hm := Int.emod_nonneg (W 4 + zBF (zDr2 p V) (zhm (zDr2 p V) p) q) (show (128 : Int) ≠ 0 by decide)
    unfold zHear
    rw [zup_ne (by omega), zup_ne (by omega)]
theorem zNv_tkB {t : Int} {A : Int → Int} (hI : zIV t A) (hd : zTD A) (h : zNv (fun _ => 0) A) : ∀ k : Nat, (k : Int) ≤ A 2 → zNv (fun p => if p < (k : Int) then 1 else 0) (zfold (fun p W => if W (96 + 47 * p + 4) = 100 then zDr p W else W) k A)
  | 0, _ => zNv_f h (fun p p0 p1 _ hz => by
      show (if p < ((0 : Nat) : Int) then 1 else 0) ≤ A (96 + 47 * p + 6)
      rw [if_neg (by omega)]
      exact hz)
  | k + 1, hk => by
    have ih := zNv_tkB hI hd h k (by omega)
    obtain ⟨b1, b2, b3⟩ := zTkB_keep hI hd k (by omega)
    show zNv _ (if _ then zDr (k : Int) _ else _)
    generalize zfold (fun p W => if W (96 + 47 * p + 4) = 100 then zDr p W else W) k A = W at *
    have e2 := b2 2 (by decide) (by decide)
    have k2 : 0 ≤ (k : Int) ∧ (k : Int) < W 2 := ⟨by omega, by omega⟩
    have h8 := b1.2.2.1.2
    have hn := (b1.2.2.2.2.2.2.1 k k2.1 k2.2).2.2.2.2.2.2.2.1
    split
    · rename_i hs
      have hle := b3 k (by omega) (by omega) hs
      obtain ⟨-, c2⟩ := zDr_keep b1 k2 hle
      have c6 := zDr_6 b1 k2 hle
      have cl : ∀ j, j < 96 → j ≠ 5 → zDr (k : Int) W j = W j := fun j j0 j1 => c2 j (Or.inl ⟨j0, j1⟩)
      have cm : ∀ p q, 0 ≤ p → p < W 2 → 0 ≤ q → q < 47 → (p ≠ (k : Int) ∨ q < 6) → zDr (k : Int) W (96 + 47 * p + q) = W (96 + 47 * p + q) := fun p q p0 p1 q0 q1 z => c2 _ (Or.inr ⟨p, q, rfl, p0, by omega, q0, q1, z⟩)
      obtain ⟨a, b, d, e⟩ := ih
      have d2 := cl 2 (by decide) (by decide)
      refine ⟨fun p p0 p1 => ?_, fun p p0 p1 => ?_, fun p p0 p1 => ?_, ?_⟩
      · rw [d2] at p1
        rw [cm p 1 p0 p1 (by omega) (by omega) (Or.inr (by omega)), cm p 2 p0 p1 (by omega) (by omega) (Or.inr (by omega))]
        exact a p p0 p1
      · rw [d2] at p1
        rw [cm p 4 p0 p1 (by omega) (by omega) (Or.inr (by omega)), cm p 5 p0 p1 (by omega) (by omega) (Or.inr (by omega))]
        exact b p p0 p1
      · rw [d2] at p1
        rw [cm p 4 p0 p1 (by omega) (by omega) (Or.inr (by omega))]
        have g := d p p0 p1
        by_cases hp : p = (k : Int)
        · rw [hp, c6]
          refine ⟨fun _ => ?_, fun q => absurd hs q⟩
          show (if (k : Int) < ((k + 1 : Nat) : Int) then 1 else 0) ≤ _
          rw [if_pos (by omega)]
          omega
        · rw [cm p 6 p0 p1 (by omega) (by omega) (Or.inl hp)]
          refine ⟨fun q => ?_, g.2⟩
          have g1 : (if p < (k : Int) then 1 else 0) ≤ W (96 + 47 * p + 6) := g.1 q
          show (if p < ((k + 1 : Nat) : Int) then 1 else 0) ≤ _
          by_cases hq : p < (k : Int)
          · rw [if_pos hq] at g1
            rw [if_pos (by omega)]
            exact g1
          · rw [if_neg hq] at g1
            rw [if_neg (by omega)]
            exact g1
      · show zSr _ (zDr (k : Int) W 1).toNat = zDr (k : Int) W 6
        have h16 := b1.2.1.2
        rw [cl 1 (by decide) (by decide), cl 6 (by decide) (by decide), zSr_c _ (fun h h0 h1 => cl _ (by omega) (by omega))]
        exact e
    · rename_i hs
      refine zNv_f ih (fun p p0 p1 q hz => ?_)
      have hz' : (if p < (k : Int) then 1 else 0) ≤ W (96 + 47 * p + 6) := hz
      show (if p < ((k + 1 : Nat) : Int) then 1 else 0) ≤ _
      by_cases hp : p = (k : Int)
      · rw [hp] at q
        exact absurd q hs
      · by_cases hq : p < (k : Int)
        · rw [if_pos hq] at hz'
          rw [if_pos (by omega)]
          exact hz'
        · rw [if_neg hq] at hz'
          rw [if_neg (by omega)]
          exact hz'
theorem zNv_de {t p : Int} {f V : Int → Int} (hI : zIV t V) (h : zNv f V) (hp : 0 ≤ p ∧ p < V 2) (hd : V (96 + 47 * p + 4) = 100) : zNv f (zDe p V) := by
  obtain ⟨m0, m1, m2, m3, m4, m5, m6, m7, m8⟩ := hI.2.2.2.2.2.2.1 p hp.1 hp.2
  have m6' := m6 (Or.inr hd)
  have h8 := hI.2.2.1.2
  have h16 := hI.2.1.2
  obtain ⟨a, b, d, e⟩ := h
  unfold zDe
  split
  · generalize hx : V (96 + 47 * p + 2) = x at *
    have eo : ∀ i, i ≠ 96 + 47 * p + 6 → i ≠ 96 + 47 * p + 4 → i ≠ 72 + 4 * x + 2 → i ≠ 72 + 4 * x + 3 → i ≠ 6 → zup (zup (zup (zup (zup V (96 + 47 * p + 6) 0) (96 + 47 * p + 4) 114) (72 + 4 * x + 2) (V (72 + 4 * x + 2) + 1)) (72 + 4 * x + 3) (V (96 + 47 * p + 3) + 1)) 6 (V 6 + 1) i = V i := fun i h1 h2 h3 h4 h5 => by rw [zup_ne h5, zup_ne h4, zup_ne h3, zup_ne h2, zup_ne h1]
    have e6 : zup (zup (zup (zup (zup V (96 + 47 * p + 6) 0) (96 + 47 * p + 4) 114) (72 + 4 * x + 2) (V (72 + 4 * x + 2) + 1)) (72 + 4 * x + 3) (V (96 + 47 * p + 3) + 1)) 6 (V 6 + 1) (96 + 47 * p + 6) = 0 := by rw [zup_ne (by omega), zup_ne (by omega), zup_ne (by omega), zup_ne (by omega), zup_same]
    have e4 : zup (zup (zup (zup (zup V (96 + 47 * p + 6) 0) (96 + 47 * p + 4) 114) (72 + 4 * x + 2) (V (72 + 4 * x + 2) + 1)) (72 + 4 * x + 3) (V (96 + 47 * p + 3) + 1)) 6 (V 6 + 1) (96 + 47 * p + 4) = 114 := by rw [zup_ne (by omega), zup_ne (by omega), zup_ne (by omega), zup_same]
    have er : zup (zup (zup (zup (zup V (96 + 47 * p + 6) 0) (96 + 47 * p + 4) 114) (72 + 4 * x + 2) (V (72 + 4 * x + 2) + 1)) (72 + 4 * x + 3) (V (96 + 47 * p + 3) + 1)) 6 (V 6 + 1) (72 + 4 * x + 2) = V (72 + 4 * x + 2) + 1 := by rw [zup_ne (by omega), zup_ne (by omega), zup_same]
    have eg : zup (zup (zup (zup (zup V (96 + 47 * p + 6) 0) (96 + 47 * p + 4) 114) (72 + 4 * x + 2) (V (72 + 4 * x + 2) + 1)) (72 + 4 * x + 3) (V (96 + 47 * p + 3) + 1)) 6 (V 6 + 1) 6 = V 6 + 1 := zup_same _ _ _
    generalize zup (zup (zup (zup (zup V (96 + 47 * p + 6) 0) (96 + 47 * p + 4) 114) (72 + 4 * x + 2) (V (72 + 4 * x + 2) + 1)) (72 + 4 * x + 3) (V (96 + 47 * p + 3) + 1)) 6 (V 6 + 1) = V' at *
    have e2 := eo 2 (by omega) (by omega) (by omega) (by omega) (by omega)
    refine ⟨fun q p0 p1 => ?_, fun q p0 p1 => ?_, fun q p0 p1 => ?_, ?_⟩
    · rw [e2] at p1
      rw [eo _ (by omega) (by omega) (by omega) (by omega) (by omega), eo _ (by omega) (by omega) (by omega) (by omega) (by omega)]
      exact a q p0 p1
    · rw [e2] at p1
      rw [eo (96 + 47 * q + 5) (by omega) (by omega) (by omega) (by omega) (by omega)]
      by_cases hq : q = p
      · rw [hq, e4]
        omega
      · rw [eo (96 + 47 * q + 4) (by omega) (by omega) (by omega) (by omega) (by omega)]
        exact b q p0 p1
    · rw [e2] at p1
      by_cases hq : q = p
      · rw [hq, e4, e6]
        exact ⟨fun z => absurd z (by decide), fun _ => rfl⟩
      · rw [eo (96 + 47 * q + 4) (by omega) (by omega) (by omega) (by omega) (by omega), eo (96 + 47 * q + 6) (by omega) (by omega) (by omega) (by omega) (by omega)]
        exact d q p0 p1
    · show zSr V' (V' 1).toNat = V' 6
      have m22 := m2.2
      rw [eo 1 (by omega) (by omega) (by omega) (by omega) (by omega), eg, ← e]
      have hS : ∀ n : Nat, (n : Int) ≤ 6 → zSr V' n = zSr V n + zb (x < (n : Int)) := by
        intro n
        induction n with
        | zero =>
          intro _
          have h9 : ¬ x < ((0 : Nat) : Int) := by omega
          show (0 : Int) = 0 + _
          rw [zb_f h9]
          rfl
        | succ n ih =>
          intro hn
          show zSr V' n + V' (72 + 4 * (n : Int) + 2) = zSr V n + V (72 + 4 * (n : Int) + 2) + _
          rw [ih (by omega)]
          by_cases h1 : (n : Int) = x
          · rw [h1, er]
            have h2 : x < ((n + 1 : Nat) : Int) := by omega
            have h3 : ¬ x < x := by omega
            rw [zb_t h2, zb_f h3]
            omega
          · rw [eo _ (by omega) (by omega) (by omega) (by omega) (by omega)]
            by_cases h3 : x < (n : Int)
            · have h4 : x < ((n + 1 : Nat) : Int) := by omega
              rw [zb_t h3, zb_t h4]
              omega
            · have h4 : ¬ x < ((n + 1 : Nat) : Int) := by omega
              rw [zb_f h3, zb_f h4]
              omega
      rw [hS _ (by omega)]
      have h5 : x < (((V 1).toNat : Nat) : Int) := by omega
      rw [zb_t h5]
  · have eo : ∀ i v, i ≠ 96 + 47 * p + 6 → i ≠ 96 + 47 * p + 5 → i ≠ 96 + 47 * p + 4 → i ≠ 7 → zup (zup (zup (zup V (96 + 47 * p + 6) 0) (96 + 47 * p + 5) (V (96 + 47 * p + 5) + 1)) (96 + 47 * p + 4) v) 7 (V 7 + 1) i = V i := fun i v h1 h2 h3 h4 => by rw [zup_ne h4, zup_ne h3, zup_ne h2, zup_ne h1]
    have e6 : ∀ v, zup (zup (zup (zup V (96 + 47 * p + 6) 0) (96 + 47 * p + 5) (V (96 + 47 * p + 5) + 1)) (96 + 47 * p + 4) v) 7 (V 7 + 1) (96 + 47 * p + 6) = 0 := fun v => by rw [zup_ne (by omega), zup_ne (by omega), zup_ne (by omega), zup_same]
    have e5 : ∀ v, zup (zup (zup (zup V (96 + 47 * p + 6) 0) (96 + 47 * p + 5) (V (96 + 47 * p + 5) + 1)) (96 + 47 * p + 4) v) 7 (V 7 + 1) (96 + 47 * p + 5) = V (96 + 47 * p + 5) + 1 := fun v => by rw [zup_ne (by omega), zup_ne (by omega), zup_same]
    have e4 : ∀ v, zup (zup (zup (zup V (96 + 47 * p + 6) 0) (96 + 47 * p + 5) (V (96 + 47 * p + 5) + 1)) (96 + 47 * p + 4) v) 7 (V 7 + 1) (96 + 47 * p + 4) = v := fun v => by rw [zup_ne (by omega), zup_same]
    generalize hv : (if V (96 + 47 * p + 5) + 1 = 3 then (108 : Int) else 119) = v
    have hv1 : (v = 108 ↔ V (96 + 47 * p + 5) + 1 = 3) ∧ v ≠ 100 := by
      rw [← hv]
      split <;> rename_i h9
      · exact ⟨⟨fun _ => h9, fun _ => rfl⟩, by decide⟩
      · exact ⟨⟨fun z => absurd z (by decide), fun z => absurd z h9⟩, by decide⟩
    replace eo := fun i => eo i v
    replace e6 := e6 v
    replace e5 := e5 v
    replace e4 := e4 v
    generalize zup (zup (zup (zup V (96 + 47 * p + 6) 0) (96 + 47 * p + 5) (V (96 + 47 * p + 5) + 1)) (96 + 47 * p + 4) v) 7 (V 7 + 1) = V' at *
    have e2 := eo 2 (by omega) (by omega) (by omega) (by omega)
    refine ⟨fun q p0 p1 => ?_, fun q p0 p1 => ?_, fun q p0 p1 => ?_, ?_⟩
    · rw [e2] at p1
      rw [eo _ (by omega) (by omega) (by omega) (by omega), eo _ (by omega) (by omega) (by omega) (by omega)]
      exact a q p0 p1
    · rw [e2] at p1
      by_cases hq : q = p
      · rw [hq, e4, e5]
        exact hv1.1
      · rw [eo (96 + 47 * q + 4) (by omega) (by omega) (by omega) (by omega), eo (96 + 47 * q + 5) (by omega) (by omega) (by omega) (by omega)]
        exact b q p0 p1
    · rw [e2] at p1
      by_cases hq : q = p
      · rw [hq, e4, e6]
        exact ⟨fun z => absurd z hv1.2, fun _ => rfl⟩
      · rw [eo (96 + 47 * q + 4) (by omega) (by omega) (by omega) (by omega), eo (96 + 47 * q + 6) (by omega) (by omega) (by omega) (by omega)]
        exact d q p0 p1
    · show zSr V' (V' 1).toNat = V' 6
      rw [eo 1 (by omega) (by omega) (by omega) (by omega), eo 6 (by omega) (by omega) (by omega) (by omega), zSr_c _ (fun h h0 h1 => eo _ (by omega) (by omega) (by omega) (by omega))]
      exact e
theorem zNv_tkC {t : Int} {f B : Int → Int} (hI : zIV t B) (h : zNv f B) : ∀ k : Nat, (k : Int) ≤ B 2 → zNv f (zfold (fun p W => if W (96 + 47 * p + 4) = 100 ∧ W (96 + 47 * p + 6) = 5 then zDe p W else W) k B)
  | 0, _ => h
  | k + 1, hk => by
    have ih := zNv_tkC hI h k (by omega)
    obtain ⟨b1, b2, -⟩ := zTkC_keep hI k (by omega)
    show zNv f (if _ then zDe (k : Int) _ else _)
    generalize zfold (fun p W => if W (96 + 47 * p + 4) = 100 ∧ W (96 + 47 * p + 6) = 5 then zDe p W else W) k B = W at *
    have e2 := b2 2 (by decide) (by decide) (by decide)
    split
    · rename_i hs
      exact zNv_de b1 ih ⟨by omega, by omega⟩ hs.1
    · exact ih
theorem zNv_tick {t : Int} {V : Int → Int} (hI : zIV t V) (hd : zTD V) (h : zNv (fun _ => 1) V) : zNv (fun _ => 1) (zTick V) := by
  obtain ⟨a1, a2, a3⟩ := zBegs_keep hI hd
  have hA := zNv_begK hI (zNv_f h (fun p p0 p1 q z => by
    have z' : (1 : Int) ≤ V (96 + 47 * p + 6) := z
    show (0 : Int) ≤ _
    omega)) (V 0).toNat
  have hA2 := a1.2.2.1.1
  have hB := zNv_tkB a1 a2 hA (zBegs V 2).toNat (by omega)
  obtain ⟨b1, b2, -⟩ := zTkB_keep a1 a2 (zBegs V 2).toNat (by omega)
  have e2 := b2 2 (by decide) (by decide)
  have hB1 : zNv (fun _ => 1) (zTkB (zBegs V)) := zNv_f hB (fun p p0 p1 q z => by
    have p1' : p < zfold (fun p W => if W (96 + 47 * p + 4) = 100 then zDr p W else W) (zBegs V 2).toNat (zBegs V) 2 := p1
    rw [e2] at p1'
    have z' : (if p < (((zBegs V 2).toNat : Nat) : Int) then 1 else 0) ≤ zTkB (zBegs V) (96 + 47 * p + 6) := z
    rw [if_pos (by omega)] at z'
    exact z')
  have b1' : zIV (t + (zBegs V 2).toNat) (zTkB (zBegs V)) := b1
  have hB2 := b1'.2.2.1.1
  have hC := zNv_tkC b1' hB1 (zTkB (zBegs V) 2).toNat (by omega)
  obtain ⟨c1, -, -⟩ := zTkC_keep b1' (zTkB (zBegs V) 2).toNat (by omega)
  have hC' : zNv (fun _ => 1) (zTkC (zTkB (zBegs V))) := hC
  have c1' : zIV (t + (zBegs V 2).toNat + (zTkB (zBegs V) 2).toNat) (zTkC (zTkB (zBegs V))) := c1
  unfold zTick zTkD
  generalize zTkC (zTkB (zBegs V)) = C at *
  have key : ∀ k : Nat, ∀ j, j < 472 → zfold (fun c W => zup W (472 + 128 * c + (W 4 - 20 - 1) % 128) 0) k (zup C 4 (C 4 + 1)) j = zup C 4 (C 4 + 1) j := by
    intro k
    refine zfold_ind (fun (_ : Nat) (W : Int → Int) => ∀ j, j < 472 → W j = zup C 4 (C 4 + 1) j) (fun _ _ => rfl) (fun q W hq a j hj => ?_)
    have hm := Int.emod_nonneg (W 4 - 20 - 1) (show (128 : Int) ≠ 0 by decide)
    rw [zup_ne (by omega)]
    exact a j hj
  have k8 := key 8
  have g2 := c1'.2.2.1.2
  have g1 := c1'.2.1.2
  refine zNv_c hC' ?_ ?_ ?_ (fun h h0 h1 => ?_) (fun p k p0 p1 q0 q1 => ?_)
  · rw [k8 1 (by decide), zup_ne (by decide)]
  · rw [k8 2 (by decide), zup_ne (by decide)]
  · rw [k8 6 (by decide), zup_ne (by decide)]
  · rw [k8 _ (by omega), zup_ne (by omega)]
  · rw [k8 _ (by omega), zup_ne (by omega)]
theorem zNv_tks {t : Int} {V : Int → Int} (hI : zIV t V) (hd : zTD V) (h : zNv (fun _ => 1) V) (k : Nat) : zNv (fun _ => 1) (zTks k V) := by
  induction k with
  | zero => exact h
  | succ k ih =>
    obtain ⟨a, b, -, -⟩ := zTks_keep hI hd k
    exact zNv_tick a b ih
