/-! what holds of a row at rest is kept by the changes -/
theorem zGd_lo {t : Int} {V V' : Int → Int} (hG : zGd t V) (e2 : ∀ i, 2 ≤ i → i < 8 → V' i = V i) (e9 : ∀ i, 96 ≤ i → V' i = V i) (b0 : V 0 ≤ V' 0 ∧ V' 0 ≤ 8) (b1 : V 1 ≤ V' 1 ∧ V' 1 ≤ 6)
    (hT : ∀ i, 8 ≤ i → i < 72 → 0 ≤ V' i ∧ V' i ≤ 9) (hN : zTn V')
    (hH : ∀ h, 0 ≤ h → h < V' 1 → (0 ≤ V' (72 + 4 * h + 0) ∧ V' (72 + 4 * h + 0) < V' 0) ∧ (V' (72 + 4 * h + 1) = 0 ∨ V' (72 + 4 * h + 1) = 1) ∧ (0 ≤ V' (72 + 4 * h + 2) ∧ V' (72 + 4 * h + 2) ≤ t) ∧ (0 ≤ V' (72 + 4 * h + 3) ∧ V' (72 + 4 * h + 3) ≤ 16) ∧ (V' (72 + 4 * h + 2) = 0 ↔ V' (72 + 4 * h + 3) = 0))
    (hO : ∀ p, 0 ≤ p → p < V 2 → V (96 + 47 * p + 4) = 100 → V' (72 + 4 * V (96 + 47 * p + 1) + 0) = V (72 + 4 * V (96 + 47 * p + 1) + 0)) : zGd t V' := by
  obtain ⟨hI, hD, hz, hr, hd, ho, hl, hi, hn⟩ := hG
  have hI' := hI
  obtain ⟨a0, a1, a2, a3, aT, aH, aM, aR⟩ := hI
  have q2 := e2 2 (by decide) (by decide)
  have q3 := e2 3 (by decide) (by decide)
  have q4 := e2 4 (by decide) (by decide)
  have em : ∀ p k : Int, 0 ≤ p → 0 ≤ k → V' (96 + 47 * p + k) = V (96 + 47 * p + k) := fun p k p0 k0 => e9 _ (by omega)
  refine ⟨⟨by omega, by omega, by rw [q2]; exact a2, fun i h0 h1 => by rw [e2 i (by omega) h1]; exact a3 i h0 h1, hT, fun h h0 h1 => ?_, fun p h0 h1 => ?_, fun i h0 h1 => by rw [e9 i (by omega)]; exact aR i h0 h1⟩, fun p h0 h1 h2 => ?_, fun p q c p0 p1 r0 r1 c0 c1 => ?_, ?_, fun p q c p0 p1 h100 r0 r1 hb hc => ?_, ?_, fun h h0 h1 => (hH h h0 h1).2.2.2.2, ?_, hN⟩
  · obtain ⟨k1, k2, k3, k4, k5⟩ := hH h h0 h1
    exact ⟨k1, k2, k3, k4⟩
  · rw [q2] at h1
    obtain ⟨k1, k2, k3, k4, k5, k6, k7, k8, k9⟩ := aM p h0 h1
    rw [em p 0 h0 (by decide), em p 1 h0 (by decide), em p 2 h0 (by decide), em p 3 h0 (by decide), em p 4 h0 (by decide), em p 5 h0 (by decide), em p 6 h0 (by decide), q3]
    exact ⟨k1, by omega, by omega, k4, k5, k6, k7, k8, fun q r0 r1 => by rw [em p q h0 (by omega)]; exact k9 q r0 r1⟩
  · rw [q2] at h1
    rw [em p 4 h0 (by decide)] at h2
    rw [em p 6 h0 (by decide)]
    exact hD p h0 h1 h2
  · rw [q2] at p1
    rw [em p _ p0 (by omega)]
    exact hz p q c p0 p1 r0 r1 (by omega) c1
  · exact zRz_c hr q4 (fun c x hc _ _ => e9 _ (by have := hc.1; omega))
  · rw [q2] at p1
    rw [em p 4 p0 (by decide)] at h100
    rw [em p 6 p0 (by decide)] at r1
    rw [em p 3 p0 (by decide)] at hb
    have := hc.1
    rw [em p 6 p0 (by decide), em p _ p0 (by omega), q4]
    exact hd p q c p0 p1 h100 r0 r1 hb hc
  · exact zOne_c ho q2 (fun p p0 p1 hp => by
      rw [em p 4 p0 (by decide)] at hp
      refine ⟨hp, ?_⟩
      show V' (72 + 4 * V' (96 + 47 * p + 1) + 0) = V (72 + 4 * V (96 + 47 * p + 1) + 0)
      rw [em p 1 p0 (by decide)]
      exact hO p p0 p1 hp)
  · exact zId_c hi q2 (fun p p0 p1 => em p 0 p0 (by decide))
theorem zGd.hares {t : Int} {V : Int → Int} (hG : zGd t V) : ∀ h, 0 ≤ h → h < V 1 → (0 ≤ V (72 + 4 * h + 0) ∧ V (72 + 4 * h + 0) < V 0) ∧ (V (72 + 4 * h + 1) = 0 ∨ V (72 + 4 * h + 1) = 1) ∧ (0 ≤ V (72 + 4 * h + 2) ∧ V (72 + 4 * h + 2) ≤ t) ∧ (0 ≤ V (72 + 4 * h + 3) ∧ V (72 + 4 * h + 3) ≤ 16) ∧ (V (72 + 4 * h + 2) = 0 ↔ V (72 + 4 * h + 3) = 0) := fun h h0 h1 => by
  obtain ⟨k1, k2, k3, k4⟩ := hG.1.2.2.2.2.2.1 h h0 h1
  exact ⟨k1, k2, k3, k4, hG.2.2.2.2.2.2.1 h h0 h1⟩
theorem zGd.tn {t : Int} {V : Int → Int} (hG : zGd t V) : zTn V := hG.2.2.2.2.2.2.2.2
theorem zG_AC {t : Int} {V : Int → Int} (hG : zGd t V) : zGd t (zdAC V).2.2 := by
  unfold zdAC
  by_cases h : V 0 = 8
  · rw [if_pos h]
    exact hG
  rw [if_neg h]
  have h0 := hG.1.1
  have h1 := hG.1.2.1
  have e : ∀ i, i ≠ 0 → zup V 0 (V 0 + 1) i = V i := fun i hi => zup_ne hi
  have s : zup V 0 (V 0 + 1) 0 = V 0 + 1 := zup_at rfl
  show zGd t (zup V 0 (V 0 + 1))
  refine zGd_lo hG (fun i i0 _ => e i (by omega)) (fun i i0 => e i (by omega)) (by rw [s]; omega) (by rw [e 1 (by decide)]; omega) (fun i i0 i1 => by rw [e i (by omega)]; exact hG.1.2.2.2.2.1 i i0 i1) ⟨fun a c ha hc => ?_, fun a c ha hc hq => ?_⟩ (fun q q0 q1 => ?_) (fun p p0 p1 _ => e _ (by have := (hG.1.2.2.2.2.2.2.1 p p0 p1).2.1.1; omega))
  · have := ha.1
    have := hc.1
    rw [e _ (by omega), e _ (by omega)]
    exact hG.tn.1 a c ha hc
  · have := ha.1
    have := hc.1
    rw [s] at hq
    rw [e _ (by omega)]
    exact hG.tn.2 a c ha hc (by omega)
  · rw [e 1 (by decide)] at q1
    obtain ⟨k1, k2, k3, k4, k5⟩ := hG.hares q q0 q1
    rw [e (72 + 4 * q + 0) (by omega), e (72 + 4 * q + 1) (by omega), e (72 + 4 * q + 2) (by omega), e (72 + 4 * q + 3) (by omega), s]
    exact ⟨by omega, k2, k3, k4, k5⟩
/-- a tunnel's two places -/
theorem zG_tun {t a b d : Int} {V : Int → Int} (hG : zGd t V) (ha : 0 ≤ a ∧ a < V 0) (hb : 0 ≤ b ∧ b < V 0) (hab : a ≠ b) (hd : 0 ≤ d ∧ d ≤ 9) : zGd t (zup (zup V (8 + 8 * a + b) d) (8 + 8 * b + a) d) := by
  have h0 := hG.1.1
  have h1 := hG.1.2.1
  have e : ∀ i, i ≠ 8 + 8 * a + b → i ≠ 8 + 8 * b + a → zup (zup V (8 + 8 * a + b) d) (8 + 8 * b + a) d i = V i := fun i hi hj => (zup_ne hj).trans (zup_ne hi)
  have s : ∀ i, i = 8 + 8 * a + b ∨ i = 8 + 8 * b + a → zup (zup V (8 + 8 * a + b) d) (8 + 8 * b + a) d i = d := fun i hi => by
    by_cases hj : i = 8 + 8 * b + a
    · exact zup_at hj
    · rw [zup_ne hj]
      exact zup_at (by omega)
  refine zGd_lo hG (fun i i0 i1 => e i (by omega) (by omega)) (fun i i0 => e i (by omega) (by omega)) (by rw [e 0 (by omega) (by omega)]; omega) (by rw [e 1 (by omega) (by omega)]; omega) (fun i i0 i1 => ?_) ⟨fun x y hx hy => ?_, fun x y hx hy hq => ?_⟩ (fun q q0 q1 => ?_) (fun p p0 p1 _ => e _ (by have := (hG.1.2.2.2.2.2.2.1 p p0 p1).2.1.1; omega) (by have := (hG.1.2.2.2.2.2.2.1 p p0 p1).2.1.1; omega))
  · by_cases hi : i = 8 + 8 * a + b ∨ i = 8 + 8 * b + a
    · rw [s i hi]
      exact hd
    · rw [e i (by omega) (by omega)]
      exact hG.1.2.2.2.2.1 i i0 i1
  · have := hx.1; have := hx.2; have := hy.1; have := hy.2
    by_cases hi : 8 + 8 * x + y = 8 + 8 * a + b ∨ 8 + 8 * x + y = 8 + 8 * b + a
    · rw [s _ hi, s _ (by omega)]
    · rw [e _ (by omega) (by omega), e _ (by omega) (by omega)]
      exact hG.tn.1 x y hx hy
  · have := hx.1; have := hx.2; have := hy.1; have := hy.2
    rw [e 0 (by omega) (by omega)] at hq
    rw [e _ (by omega) (by omega)]
    exact hG.tn.2 x y hx hy hq
  · rw [e 1 (by omega) (by omega)] at q1
    rw [e (72 + 4 * q + 0) (by omega) (by omega), e (72 + 4 * q + 1) (by omega) (by omega), e (72 + 4 * q + 2) (by omega) (by omega), e (72 + 4 * q + 3) (by omega) (by omega), e 0 (by omega) (by omega)]
    exact hG.hares q q0 q1
theorem zG_AT {t a b d : Int} {V : Int → Int} (hG : zGd t V) : zGd t (zdAT a b d V).2.2 := by
  unfold zdAT
  by_cases h : ¬ (zisC V a ∧ zisC V b)
  · rw [if_pos h]
    exact hG
  rw [if_neg h]
  by_cases h2 : a = b ∨ ¬ (1 ≤ d ∧ d ≤ 9)
  · rw [if_pos h2]
    exact hG
  rw [if_neg h2]
  by_cases h3 : 0 < V (8 + 8 * a + b)
  · rw [if_pos h3]
    exact hG
  rw [if_neg h3]
  exact zG_tun hG (by omega) (by omega) (by omega) (by omega)
theorem zG_RT {t a b : Int} {V : Int → Int} (hG : zGd t V) : zGd t (zdRT a b V).2.2 := by
  unfold zdRT
  by_cases h : ¬ (zisC V a ∧ zisC V b)
  · rw [if_pos h]
    exact hG
  rw [if_neg h]
  by_cases h2 : V (8 + 8 * a + b) = 0
  · rw [if_pos h2]
    exact hG
  rw [if_neg h2]
  have h0 := hG.1.1
  refine zG_tun hG (by omega) (by omega) (fun q => h2 (hG.tn.2 a b ⟨by omega, by omega⟩ ⟨by omega, by omega⟩ (Or.inr (Or.inr q)))) (by decide)
/-- a hare's place alone -/
theorem zG_hare {t : Int} {V V' : Int → Int} (hG : zGd t V) (x : Int) (hx : 0 ≤ x ∧ x < 6) (e : ∀ i, (i < 72 + 4 * x ∨ 72 + 4 * x + 3 < i) → i ≠ 1 → V' i = V i) (b1 : V 1 ≤ V' 1 ∧ V' 1 ≤ 6)
    (hH : ∀ h, 0 ≤ h → h < V' 1 → h = x ∨ h < V 1)
    (hX : (0 ≤ V' (72 + 4 * x + 0) ∧ V' (72 + 4 * x + 0) < V 0) ∧ (V' (72 + 4 * x + 1) = 0 ∨ V' (72 + 4 * x + 1) = 1) ∧ (0 ≤ V' (72 + 4 * x + 2) ∧ V' (72 + 4 * x + 2) ≤ t) ∧ (0 ≤ V' (72 + 4 * x + 3) ∧ V' (72 + 4 * x + 3) ≤ 16) ∧ (V' (72 + 4 * x + 2) = 0 ↔ V' (72 + 4 * x + 3) = 0))
    (hO : ∀ p, 0 ≤ p → p < V 2 → V (96 + 47 * p + 4) = 100 → V (96 + 47 * p + 1) = x → V' (72 + 4 * x + 0) = V (72 + 4 * x + 0)) : zGd t V' := by
  have h0 := hG.1.1
  have h1 := hG.1.2.1
  have e0 := e 0 (by omega) (by decide)
  refine zGd_lo hG (fun i i0 i1 => e i (by omega) (by omega)) (fun i i0 => e i (by omega) (by omega)) (by rw [e0]; omega) b1 (fun i i0 i1 => by rw [e i (by omega) (by omega)]; exact hG.1.2.2.2.2.1 i i0 i1) (zTn_c hG.tn e0 (fun i i0 i1 => e i (by omega) (by omega))) (fun q q0 q1 => ?_) (fun p p0 p1 hp => ?_)
  · rw [e0]
    by_cases hq : q = x
    · rw [hq]
      exact hX
    · have hq1 : q < V 1 := by
        have := hH q q0 q1
        omega
      rw [e (72 + 4 * q + 0) (by omega) (by omega), e (72 + 4 * q + 1) (by omega) (by omega), e (72 + 4 * q + 2) (by omega) (by omega), e (72 + 4 * q + 3) (by omega) (by omega)]
      exact hG.hares q q0 hq1
  · have hs := (hG.1.2.2.2.2.2.2.1 p p0 p1).2.1
    by_cases hq : V (96 + 47 * p + 1) = x
    · rw [hq]
      exact hO p p0 p1 hp hq
    · exact e _ (by omega) (by omega)
theorem zG_AH {t x : Int} {V : Int → Int} (hG : zGd t V) (ht : 0 ≤ t) : zGd t (zdAH x V).2.2 := by
  unfold zdAH
  by_cases h : ¬ zisC V x
  · rw [if_pos h]
    exact hG
  rw [if_neg h]
  by_cases h2 : V 1 = 6
  · rw [if_pos h2]
    exact hG
  rw [if_neg h2]
  have h1 := hG.1.2.1
  show zGd t (zup (zup (zup (zup (zup V (72 + 4 * V 1) x) (72 + 4 * V 1 + 1) 1) (72 + 4 * V 1 + 2) 0) (72 + 4 * V 1 + 3) 0) 1 (V 1 + 1))
  have s1 : zup (zup (zup (zup (zup V (72 + 4 * V 1) x) (72 + 4 * V 1 + 1) 1) (72 + 4 * V 1 + 2) 0) (72 + 4 * V 1 + 3) 0) 1 (V 1 + 1) 1 = V 1 + 1 := zup_at rfl
  refine zG_hare hG (V 1) (by omega) (fun i hi hi1 => ?_) (by rw [s1]; omega) (fun q q0 q1 => by rw [s1] at q1; omega) ?_ (fun p p0 p1 hp hq => ?_)
  · rw [zup_ne hi1, zup_ne (by omega), zup_ne (by omega), zup_ne (by omega), zup_ne (by omega)]
  · have g0 : zup (zup (zup (zup (zup V (72 + 4 * V 1) x) (72 + 4 * V 1 + 1) 1) (72 + 4 * V 1 + 2) 0) (72 + 4 * V 1 + 3) 0) 1 (V 1 + 1) (72 + 4 * V 1 + 0) = x := by
      rw [zup_ne (by omega), zup_ne (by omega), zup_ne (by omega), zup_ne (by omega)]
      exact zup_at (by omega)
    have g1 : zup (zup (zup (zup (zup V (72 + 4 * V 1) x) (72 + 4 * V 1 + 1) 1) (72 + 4 * V 1 + 2) 0) (72 + 4 * V 1 + 3) 0) 1 (V 1 + 1) (72 + 4 * V 1 + 1) = 1 := by
      rw [zup_ne (by omega), zup_ne (by omega), zup_ne (by omega)]
      exact zup_at rfl
    have g2 : zup (zup (zup (zup (zup V (72 + 4 * V 1) x) (72 + 4 * V 1 + 1) 1) (72 + 4 * V 1 + 2) 0) (72 + 4 * V 1 + 3) 0) 1 (V 1 + 1) (72 + 4 * V 1 + 2) = 0 := by
      rw [zup_ne (by omega), zup_ne (by omega)]
      exact zup_at rfl
    have g3 : zup (zup (zup (zup (zup V (72 + 4 * V 1) x) (72 + 4 * V 1 + 1) 1) (72 + 4 * V 1 + 2) 0) (72 + 4 * V 1 + 3) 0) 1 (V 1 + 1) (72 + 4 * V 1 + 3) = 0 := by
      rw [zup_ne (by omega)]
      exact zup_at rfl
    rw [g0, g1, g2, g3]
    exact ⟨by omega, Or.inr rfl, by omega, by omega, Iff.rfl⟩
  · have hs := (hG.1.2.2.2.2.2.2.1 p p0 p1).2.1
    omega
theorem zG_Mv {t x c : Int} {V : Int → Int} (hG : zGd t V) : zGd t (zdMv x c V).2.2 := by
  unfold zdMv
  by_cases h : ¬ (zisH V x ∧ zisC V c)
  · rw [if_pos h]
    exact hG
  rw [if_neg h]
  by_cases h2 : zdrm V x
  · rw [if_pos h2]
    exact hG
  rw [if_neg h2]
  have h1 := hG.1.2.1
  show zGd t (zup V (72 + 4 * x) c)
  have e : ∀ i, i ≠ 72 + 4 * x → zup V (72 + 4 * x) c i = V i := fun i hi => zup_ne hi
  have hh := hG.hares x (by omega) (by omega)
  refine zG_hare hG x (by omega) (fun i hi _ => e i (by omega)) (by rw [e 1 (by omega)]; omega) (fun q q0 q1 => by rw [e 1 (by omega)] at q1; omega) ?_ (fun p p0 p1 hp hq => ?_)
  · rw [zup_at (show (72 + 4 * x + 0 : Int) = 72 + 4 * x by omega), e (72 + 4 * x + 1) (by omega), e (72 + 4 * x + 2) (by omega), e (72 + 4 * x + 3) (by omega)]
    exact ⟨by omega, hh.2⟩
  · exact absurd (zany_iff.mpr ⟨p, p0, by omega, hp, hq⟩) h2
theorem zG_Li {t x : Int} {P : Prop} [Decidable P] {V : Int → Int} (hG : zGd t V) : zGd t (zdLi x P V).2.2 := by
  unfold zdLi
  by_cases h : ¬ zisH V x
  · rw [if_pos h]
    exact hG
  rw [if_neg h]
  have h1 := hG.1.2.1
  show zGd t (zup V (72 + 4 * x + 1) (zb P))
  have e : ∀ i, i ≠ 72 + 4 * x + 1 → zup V (72 + 4 * x + 1) (zb P) i = V i := fun i hi => zup_ne hi
  have hh := hG.hares x (by omega) (by omega)
  refine zG_hare hG x (by omega) (fun i hi _ => e i (by omega)) (by rw [e 1 (by omega)]; omega) (fun q q0 q1 => by rw [e 1 (by omega)] at q1; omega) ?_ (fun p p0 p1 hp hq => e _ (by omega))
  rw [zup_at (rfl : (72 + 4 * x + 1 : Int) = 72 + 4 * x + 1), e (72 + 4 * x + 0) (by omega), e (72 + 4 * x + 2) (by omega), e (72 + 4 * x + 3) (by omega)]
  refine ⟨hh.1, ?_, hh.2.2⟩
  rcases zb_01 P with z | z
  · exact Or.inl z
  · exact Or.inr z
theorem zG_PT {t n : Int} {V : Int → Int} (hG : zGd t V) (ht : 0 ≤ n) : zGd (t + 17 * n) (zdPT n V).2.2 ∨ ¬ (1 ≤ n ∧ n ≤ 40) := by
  by_cases h : ¬ (1 ≤ n ∧ n ≤ 40)
  · exact Or.inr h
  refine Or.inl ?_
  unfold zdPT
  rw [if_neg h]
  have k := zTks_keep hG.1 hG.2.1 n.toNat
  have k2 := zTks_pk hG.1 hG.2.1 hG.2.2 n.toNat
  show zGd (t + 17 * n) (zTks n.toNat V)
  have hn : ((n.toNat : Nat) : Int) = n := by omega
  rw [hn] at k
  exact ⟨k.1, k.2.1, k2⟩
