/-! what holds of the model's row at rest, and within a tick -/
def zHd (f : Int → Int) (V : Int → Int) : Prop := ∀ p q c, 0 ≤ p → p < V 2 → V (96 + 47 * p + 4) = 100 → 0 ≤ q → q < V (96 + 47 * p + 6) → zbt (V (96 + 47 * p + 3)) q = 1 → zc8 c → V (96 + 47 * p + (7 + 8 * q + c)) = 0 ∨ (V 4 + f p - V (96 + 47 * p + 6) + q ≤ V (96 + 47 * p + (7 + 8 * q + c)) - 1 ∧ V (96 + 47 * p + (7 + 8 * q + c)) - 1 ≤ V 4 + f p - V (96 + 47 * p + 6) + q + 63)
def zOne (V : Int → Int) : Prop := ∀ p q, 0 ≤ p → p < q → q < V 2 → V (96 + 47 * p + 4) = 100 → V (96 + 47 * q + 4) = 100 → zhm V p ≠ zhm V q
def zLa (V : Int → Int) : Prop := ∀ h, 0 ≤ h → h < V 1 → (V (72 + 4 * h + 2) = 0 ↔ V (72 + 4 * h + 3) = 0)
def zPk (f : Int → Int) (V : Int → Int) : Prop := zHz V ∧ zRz V ∧ zHd f V ∧ zOne V ∧ zLa V ∧ zId V ∧ zTn V
/-- places that a tick leaves as they are -/
theorem zHz_c {V V' : Int → Int} (h : zHz V) (e0 : V' 0 = V 0) (e2 : V' 2 = V 2) (e : ∀ p q c, 0 ≤ p → p < V 2 → 0 ≤ q → q < 5 → V 0 ≤ c → c < 8 → V' (96 + 47 * p + (7 + 8 * q + c)) = V (96 + 47 * p + (7 + 8 * q + c))) : zHz V' := fun p q c p0 p1 q0 q1 c0 c1 => by
  rw [e2] at p1
  rw [e0] at c0
  rw [e p q c p0 p1 q0 q1 c0 c1]
  exact h p q c p0 p1 q0 q1 c0 c1
theorem zRz_c {V V' : Int → Int} (h : zRz V) (e4 : V' 4 = V 4) (e : ∀ c t, zc8 c → V 4 + 64 ≤ t → t ≤ V 4 + 107 → V' (472 + 128 * c + t % 128) = V (472 + 128 * c + t % 128)) : zRz V' := fun c t hc t0 t1 => by
  rw [e4] at t0 t1
  rw [e c t hc t0 t1]
  exact h c t hc t0 t1
theorem zLa_c {V V' : Int → Int} (h : zLa V) (e1 : V' 1 = V 1) (e : ∀ i, 72 ≤ i → i < 72 + 4 * V 1 → V' i = V i) : zLa V' := fun q q0 q1 => by
  rw [e1] at q1
  rw [e _ (by omega) (by omega), e _ (by omega) (by omega)]
  exact h q q0 q1
theorem zId_c {V V' : Int → Int} (h : zId V) (e2 : V' 2 = V 2) (e : ∀ p, 0 ≤ p → p < V 2 → V' (96 + 47 * p + 0) = V (96 + 47 * p + 0)) : zId V' := fun p q p0 p1 q1 => by
  rw [e2] at q1
  rw [e p p0 (by omega), e q (by omega) q1]
  exact h p q p0 p1 q1
theorem zTn_c {V V' : Int → Int} (h : zTn V) (e0 : V' 0 = V 0) (e : ∀ i, 8 ≤ i → i < 72 → V' i = V i) : zTn V' := by
  refine ⟨fun a c ha hc => ?_, fun a c ha hc hq => ?_⟩
  · have := ha.1; have := ha.2; have := hc.1; have := hc.2
    rw [e _ (by omega) (by omega), e _ (by omega) (by omega)]
    exact h.1 a c ha hc
  · have := ha.1; have := ha.2; have := hc.1; have := hc.2
    rw [e0] at hq
    rw [e _ (by omega) (by omega)]
    exact h.2 a c ha hc hq
theorem zOne_c {V V' : Int → Int} (h : zOne V) (e2 : V' 2 = V 2) (e : ∀ p, 0 ≤ p → p < V 2 → V' (96 + 47 * p + 4) = 100 → V (96 + 47 * p + 4) = 100 ∧ zhm V' p = zhm V p) : zOne V' := fun p q p0 p1 q1 hp hq => by
  rw [e2] at q1
  obtain ⟨a1, a2⟩ := e p p0 (by omega) hp
  obtain ⟨b1, b2⟩ := e q (by omega) q1 hq
  rw [a2, b2]
  exact h p q p0 p1 q1 a1 b1
theorem zmi_ne {p u k k' : Int} (h0 : 0 ≤ k ∧ k < 47) (h1 : 0 ≤ k' ∧ k' < 47) (h : p ≠ u ∨ k ≠ k') : 96 + 47 * p + k ≠ 96 + 47 * u + k' := by omega
/-- a message begins -/
theorem zPk_beg {zt c : Int} {f V : Int → Int} (hI : zIV zt V) (h : zPk f V) : zPk f (zBeg1 c V) := by
  unfold zBeg1
  split
  · exact h
  · rename_i hn
    have hb : ¬ zBd c V = true := fun z => hn (Or.inl z)
    have hf : 0 ≤ zBf c V := by
      by_cases q : zBf c V < 0
      · exact absurd (Or.inr q) hn
      · omega
    have h1b := hI.2.1
    have h2b := hI.2.2.1
    have hF := zfst_F1 (P := fun q => zhm V q = c ∧ V (96 + 47 * q + 4) = 119) (V 2).toNat
    have hF' : zF1 (fun q => zhm V q = c ∧ V (96 + 47 * q + 4) = 119) 0 ((V 2).toNat : Int) (zBf c V) := hF
    rcases hF' with ⟨z, -⟩ | ⟨u0, u1, ⟨u2, u3⟩, -⟩
    · omega
    · generalize zBf c V = u at *
      have hu : u < V 2 := by omega
      have hs1 := (hI.2.2.2.2.2.2.1 u hf hu).2.1
      have eo : ∀ j, j ≠ 96 + 47 * u + 4 → j ≠ 96 + 47 * u + 6 → zup (zup V (96 + 47 * u + 4) 100) (96 + 47 * u + 6) 0 j = V j := fun j a b => by rw [zup_ne b, zup_ne a]
      have e4 : zup (zup V (96 + 47 * u + 4) 100) (96 + 47 * u + 6) 0 (96 + 47 * u + 4) = 100 := by rw [zup_ne (by omega), zup_same]
      have e6 : zup (zup V (96 + 47 * u + 4) 100) (96 + 47 * u + 6) 0 (96 + 47 * u + 6) = 0 := by rw [zup_same]
      generalize zup (zup V (96 + 47 * u + 4) 100) (96 + 47 * u + 6) 0 = V' at *
      have ehm : ∀ p, 0 ≤ p → p < V 2 → zhm V' p = zhm V p := fun p p0 p1 => by
        have hs := (hI.2.2.2.2.2.2.1 p p0 p1).2.1
        show V' (72 + 4 * V' (96 + 47 * p + 1) + 0) = V (72 + 4 * V (96 + 47 * p + 1) + 0)
        rw [eo (96 + 47 * p + 1) (by omega) (by omega), eo _ (by omega) (by omega)]
      obtain ⟨a1, a2, a3, a4, a5, a6, a7⟩ := h
      refine ⟨zHz_c a1 (eo 0 (by omega) (by omega)) (eo 2 (by omega) (by omega)) (fun p q d p0 p1 q0 q1 d0 d1 => eo _ (zmi_ne (by have := hI.1; omega) (by decide) (Or.inr (by have := hI.1; omega))) (zmi_ne (by have := hI.1; omega) (by decide) (Or.inr (by have := hI.1; omega)))), zRz_c a2 (eo 4 (by omega) (by omega)) (fun d t hd t0 t1 => eo _ (by have := hd.1; omega) (by have := hd.1; omega)), fun p q d p0 p1 hp q0 q1 hz hd => ?_, fun p q p0 p1 q1 hp hq => ?_, zLa_c a5 (eo 1 (by omega) (by omega)) (fun i i0 i1 => eo i (by omega) (by omega)), zId_c a6 (eo 2 (by omega) (by omega)) (fun p p0 p1 => eo _ (by omega) (by omega)), zTn_c a7 (eo 0 (by omega) (by omega)) (fun i i0 i1 => eo i (by omega) (by omega))⟩
      · have d0 := hd.1
        have d1 := hd.2
        rw [eo 2 (by omega) (by omega)] at p1
        by_cases e : p = u
        · rw [e, e6] at q1
          omega
        · rw [eo _ (by omega) (by omega)] at hp
          rw [eo (96 + 47 * p + 6) (by omega) (by omega)] at q1 ⊢
          rw [eo (96 + 47 * p + 3) (by omega) (by omega)] at hz
          have h6 := (hI.2.2.2.2.2.2.1 p p0 p1).2.2.2.2.2.2.2.1
          rw [eo (96 + 47 * p + (7 + 8 * q + d)) (by omega) (by omega), eo 4 (by omega) (by omega)]
          exact a3 p q d p0 p1 hp q0 q1 hz hd
      · rw [eo 2 (by omega) (by omega)] at q1
        rw [ehm p p0 (by omega), ehm q (by omega) q1]
        have nb : ∀ r, 0 ≤ r → r < V 2 → V (96 + 47 * r + 4) = 100 → zhm V r ≠ c := fun r r0 r1 hr z => hb (zany_iff.mpr ⟨r, r0, by omega, z, hr⟩)
        by_cases e : p = u
        · have hq2 : V (96 + 47 * q + 4) = 100 := by rw [eo _ (by omega) (by omega)] at hq; exact hq
          rw [e, u2]
          exact fun z => nb q (by omega) q1 hq2 z.symm
        · have hp2 : V (96 + 47 * p + 4) = 100 := by rw [eo _ (by omega) (by omega)] at hp; exact hp
          by_cases e9 : q = u
          · rw [e9, u2]
            exact nb p p0 (by omega) hp2
          · have hq2 : V (96 + 47 * q + 4) = 100 := by rw [eo _ (by omega) (by omega)] at hq; exact hq
            exact a4 p q p0 p1 q1 hp2 hq2
/-- a beat is drummed -/
theorem zPk_dr {zt p : Int} {f f' V : Int → Int} (hI : zIV zt V) (h : zPk f V) (hp : 0 ≤ p ∧ p < V 2) (hs : V (96 + 47 * p + 4) = 100) (hd : V (96 + 47 * p + 6) ≤ 4) (hf : f p = 0) (hf1 : f' p = 1) (hf2 : ∀ q, q ≠ p → f' q = f q) : zPk f' (zDr p V) := by
  have h0b := hI.1
  have h1b := hI.2.1
  have h2b := hI.2.2.1
  obtain ⟨a1, a2, a3, a4, a5, a6, a7⟩ := h
  have hm := hI.2.2.2.2.2.2.1 p hp.1 hp.2
  have hm6 := hm.2.2.2.2.2.2.2.1
  -- what the beat writes
  have key : (∀ j, j ≠ 5 → j ≠ 96 + 47 * p + 6 → j < 472 ∨ 1496 ≤ j → (∀ c, zc8 c → j ≠ 96 + 47 * p + (7 + 8 * V (96 + 47 * p + 6) + c)) → zDr p V j = V j) ∧ zDr p V (96 + 47 * p + 6) = V (96 + 47 * p + 6) + 1 ∧
      (zbt (V (96 + 47 * p + 3)) (V (96 + 47 * p + 6)) = 1 → ∀ c, zc8 c → zDr p V (96 + 47 * p + (7 + 8 * V (96 + 47 * p + 6) + c)) = if zdl V (zhm V p) c < 1000 then V 4 + zdl V (zhm V p) c + 1 else 0) ∧
      (∀ c, zc8 c → V 0 ≤ c → zDr p V (96 + 47 * p + (7 + 8 * V (96 + 47 * p + 6) + c)) = 0) ∧
      ∀ c t, zc8 c → V 4 + 64 ≤ t → t ≤ V 4 + 107 → zDr p V (472 + 128 * c + t % 128) = V (472 + 128 * c + t % 128) := by
    have hT := hI.2.2.2.2.1
    rcases zbt_01 (V (96 + 47 * p + 3)) (V (96 + 47 * p + 6)) with hz | hz
    · have e : zDr p V = zup V (96 + 47 * p + 6) (V (96 + 47 * p + 6) + 1) := by
        unfold zDr zDr1
        rw [if_pos hz]
      rw [e]
      refine ⟨fun j j1 j2 _ _ => zup_ne j2, zup_same _ _ _, fun z => by omega, fun c hc c0 => ?_, fun c t hc t0 t1 => zup_ne (by have := hc.1; omega)⟩
      rw [zup_ne (by have := hc.1; omega)]
      exact a1 p (V (96 + 47 * p + 6)) c hp.1 hp.2 hm6.1 (by omega) c0 hc.2
    · obtain ⟨d1, d2, d3, d4, d5⟩ := zDr_is hI a1 hp hd (by omega)
      refine ⟨d1, d3, fun _ => d4, fun c hc c0 => ?_, fun c t hc t0 t1 => ?_⟩
      · have hz9 : zdl V (zhm V p) c = 1000 := by
          unfold zdl
          rw [if_neg (by omega)]
        rw [d4 c hc, hz9, if_neg (by decide)]
      · rw [d5 c (t % 128) hc (by omega) (by omega), if_neg]
        · omega
        · rintro ⟨z1, z2⟩
          have hb : 0 ≤ zdl V (zhm V p) c ∧ zdl V (zhm V p) c ≤ 63 := by
            have hz1 := z1
            unfold zdl at hz1 ⊢
            split at hz1
            · rename_i q
              rw [if_pos q]
              have hh := (hI.2.2.2.2.2.1 (V (96 + 47 * p + 1)) hm.2.1.1 hm.2.1.2).1
              exact zBF_63 hT ⟨hh.1, Int.lt_of_lt_of_le hh.2 h0b.2⟩ hc hz1
            · omega
          omega
  obtain ⟨k1, k2, k3, k4, k5⟩ := key
  have eo : ∀ j, j < 96 → j ≠ 5 → zDr p V j = V j := fun j j0 j1 => k1 j j1 (by omega) (by omega) (fun c hc => by have := hc.1; omega)
  have em : ∀ q k, 0 ≤ q → q < V 2 → q ≠ p → 0 ≤ k → k < 47 → zDr p V (96 + 47 * q + k) = V (96 + 47 * q + k) := fun q k q0 q1 hne c0 c1 => k1 _ (by omega) (by omega) (by omega) (fun c hc => by have := hc.1; have := hc.2; omega)
  have ek : ∀ k, 0 ≤ k → k < 7 → k ≠ 6 → zDr p V (96 + 47 * p + k) = V (96 + 47 * p + k) := fun k c0 c1 c2 => k1 _ (by omega) (by omega) (by omega) (fun c hc => by have := hc.1; omega)
  have eh : ∀ q c', 0 ≤ q → q < 5 → q ≠ V (96 + 47 * p + 6) → zc8 c' → zDr p V (96 + 47 * p + (7 + 8 * q + c')) = V (96 + 47 * p + (7 + 8 * q + c')) := fun q c' q0 q1 hne hc' => k1 _ (by have := hc'.1; omega) (by have := hc'.1; omega) (by have := hc'.2; omega) (fun c hc => by have := hc.1; have := hc.2; have := hc'.1; have := hc'.2; omega)
  refine ⟨fun q r c q0 q1 r0 r1 c0 c1 => ?_, zRz_c a2 (eo 4 (by decide) (by decide)) k5, fun q r c q0 q1 hq r0 r1 hz hc => ?_, zOne_c a4 (eo 2 (by decide) (by decide)) (fun q q0 q1 hq => ?_), zLa_c a5 (eo 1 (by decide) (by decide)) (fun i i0 i1 => eo i (by omega) (by omega)), zId_c a6 (eo 2 (by decide) (by decide)) (fun q q0 q1 => ?_), zTn_c a7 (eo 0 (by decide) (by decide)) (fun i i0 i1 => eo i (by omega) (by omega))⟩
  · rw [eo 2 (by decide) (by decide)] at q1
    rw [eo 0 (by decide) (by decide)] at c0
    by_cases e : q = p
    · subst e
      by_cases e2 : r = V (96 + 47 * q + 6)
      · rw [e2]
        exact k4 c ⟨by omega, c1⟩ c0
      · rw [eh r c r0 r1 e2 ⟨by omega, c1⟩]
        exact a1 q r c q0 q1 r0 r1 c0 c1
    · rw [em q (7 + 8 * r + c) q0 q1 e (by omega) (by omega)]
      exact a1 q r c q0 q1 r0 r1 c0 c1
  · rw [eo 2 (by decide) (by decide)] at q1
    rw [eo 4 (by decide) (by decide)]
    have c0 := hc.1
    have c1 := hc.2
    by_cases e : q = p
    · subst e
      rw [k2] at r1 ⊢
      rw [ek 3 (by decide) (by decide) (by decide)] at hz
      rw [hf1]
      by_cases e2 : r = V (96 + 47 * q + 6)
      · rw [e2] at hz ⊢
        rw [k3 hz c hc]
        have hT := hI.2.2.2.2.1
        split
        · rename_i z1
          have hb : 0 ≤ zdl V (zhm V q) c ∧ zdl V (zhm V q) c ≤ 63 := by
            have hz1 := z1
            unfold zdl at hz1 ⊢
            split at hz1
            · rename_i w
              rw [if_pos w]
              have hh := (hI.2.2.2.2.2.1 (V (96 + 47 * q + 1)) hm.2.1.1 hm.2.1.2).1
              exact zBF_63 hT ⟨hh.1, Int.lt_of_lt_of_le hh.2 h0b.2⟩ hc hz1
            · omega
          right
          omega
        · exact Or.inl rfl
      · rw [eh r c r0 (by omega) e2 hc]
        have := a3 q r c q0 q1 hs r0 (by omega) hz hc
        rw [hf] at this
        omega
    · rw [em q 4 q0 q1 e (by decide) (by decide)] at hq
      have h6 := (hI.2.2.2.2.2.2.1 q q0 q1).2.2.2.2.2.2.2.1
      rw [em q 6 q0 q1 e (by decide) (by decide)] at r1 ⊢
      rw [em q 3 q0 q1 e (by decide) (by decide)] at hz
      rw [em q (7 + 8 * r + c) q0 q1 e (by omega) (by omega), hf2 q e]
      exact a3 q r c q0 q1 hq r0 r1 hz hc
  · have hs1 := (hI.2.2.2.2.2.2.1 q q0 q1).2.1
    have e1 : zDr p V (96 + 47 * q + 1) = V (96 + 47 * q + 1) := by
      by_cases e : q = p
      · rw [e]; exact ek 1 (by decide) (by decide) (by decide)
      · exact em q 1 q0 q1 e (by decide) (by decide)
    have e4 : zDr p V (96 + 47 * q + 4) = V (96 + 47 * q + 4) := by
      by_cases e : q = p
      · rw [e]; exact ek 4 (by decide) (by decide) (by decide)
      · exact em q 4 q0 q1 e (by decide) (by decide)
    refine ⟨by rw [← e4]; exact hq, ?_⟩
    show zDr p V (72 + 4 * zDr p V (96 + 47 * q + 1) + 0) = V (72 + 4 * V (96 + 47 * q + 1) + 0)
    rw [e1, eo _ (by omega) (by omega)]
  · by_cases e : q = p
    · rw [e]; exact ek 0 (by decide) (by decide) (by decide)
    · exact em q 0 q0 q1 e (by decide) (by decide)
/-- a delivery is decided -/
theorem zPk_de {zt p : Int} {f V : Int → Int} (hI : zIV zt V) (h : zPk f V) (hp : 0 ≤ p ∧ p < V 2) : zPk f (zDe p V) := by
  have h0b := hI.1
  have h1b := hI.2.1
  have h2b := hI.2.2.1
  obtain ⟨a1, a2, a3, a4, a5, a6, a7⟩ := h
  have hm := hI.2.2.2.2.2.2.1 p hp.1 hp.2
  have hr := hI.2.2.2.2.2.1 (V (96 + 47 * p + 2)) hm.2.2.1.1 hm.2.2.1.2
  have key : (∀ j, j < 72 → j ≠ 6 → j ≠ 7 → zDe p V j = V j) ∧ (∀ q k, 0 ≤ q → q < V 2 → 0 ≤ k → k < 47 → (q ≠ p ∨ (k ≠ 4 ∧ k ≠ 5 ∧ k ≠ 6)) → zDe p V (96 + 47 * q + k) = V (96 + 47 * q + k)) ∧ zDe p V (96 + 47 * p + 4) ≠ 100 ∧ (∀ j, 472 ≤ j → zDe p V j = V j) ∧
      (∀ q, 0 ≤ q → q < V 1 → zDe p V (72 + 4 * q + 0) = V (72 + 4 * q + 0)) ∧ ∀ q, 0 ≤ q → q < V 1 → ((zDe p V (72 + 4 * q + 2) = V (72 + 4 * q + 2) ∧ zDe p V (72 + 4 * q + 3) = V (72 + 4 * q + 3)) ∨ (0 < zDe p V (72 + 4 * q + 2) ∧ 0 < zDe p V (72 + 4 * q + 3))) := by
    unfold zDe
    split
    · refine ⟨fun j j0 j1 j2 => ?_, fun q k q0 q1 k0 k1 hne => ?_, ?_, fun j j0 => ?_, fun q q0 q1 => ?_, fun q q0 q1 => ?_⟩
      · rw [zup_ne (by omega), zup_ne (by omega), zup_ne (by omega), zup_ne (by omega), zup_ne (by omega)]
      · rw [zup_ne (by omega), zup_ne (by omega), zup_ne (by omega), zup_ne (by omega), zup_ne (by omega)]
      · rw [zup_ne (by omega), zup_ne (by omega), zup_ne (by omega), zup_same]
        decide
      · rw [zup_ne (by omega), zup_ne (by omega), zup_ne (by omega), zup_ne (by omega), zup_ne (by omega)]
      · rw [zup_ne (by omega), zup_ne (by omega), zup_ne (by omega), zup_ne (by omega), zup_ne (by omega)]
      · by_cases e : q = V (96 + 47 * p + 2)
        · right
          rw [e]
          constructor
          · rw [zup_ne (by omega), zup_ne (by omega), zup_same]
            omega
          · rw [zup_ne (by omega), zup_same]
            omega
        · left
          constructor
          · rw [zup_ne (by omega), zup_ne (by omega), zup_ne (by omega), zup_ne (by omega), zup_ne (by omega)]
          · rw [zup_ne (by omega), zup_ne (by omega), zup_ne (by omega), zup_ne (by omega), zup_ne (by omega)]
    · refine ⟨fun j j0 j1 j2 => ?_, fun q k q0 q1 k0 k1 hne => ?_, ?_, fun j j0 => ?_, fun q q0 q1 => ?_, fun q q0 q1 => Or.inl ⟨?_, ?_⟩⟩
      · rw [zup_ne (by omega), zup_ne (by omega), zup_ne (by omega), zup_ne (by omega)]
      · rw [zup_ne (by omega), zup_ne (by omega), zup_ne (by omega), zup_ne (by omega)]
      · rw [zup_ne (by omega), zup_same]
        split <;> decide
      · rw [zup_ne (by omega), zup_ne (by omega), zup_ne (by omega), zup_ne (by omega)]
      · rw [zup_ne (by omega), zup_ne (by omega), zup_ne (by omega), zup_ne (by omega)]
      · rw [zup_ne (by omega), zup_ne (by omega), zup_ne (by omega), zup_ne (by omega)]
      · rw [zup_ne (by omega), zup_ne (by omega), zup_ne (by omega), zup_ne (by omega)]
  obtain ⟨k1, k2, k3, k4, k5, k6⟩ := key
  have e0 := k1 0 (by decide) (by decide) (by decide)
  have e1 := k1 1 (by decide) (by decide) (by decide)
  have e2 := k1 2 (by decide) (by decide) (by decide)
  have e4 := k1 4 (by decide) (by decide) (by decide)
  refine ⟨zHz_c a1 e0 e2 (fun q r c q0 q1 r0 r1 c0 c1 => k2 q (7 + 8 * r + c) q0 q1 (by omega) (by omega) (Or.inr (by omega))), zRz_c a2 e4 (fun c t hc t0 t1 => k4 _ (by have := hc.1; omega)), fun q r c q0 q1 hq r0 r1 hz hc => ?_, zOne_c a4 e2 (fun q q0 q1 hq => ?_), fun q q0 q1 => ?_, zId_c a6 e2 (fun q q0 q1 => k2 q 0 q0 q1 (by decide) (by decide) (Or.inr (by decide))), zTn_c a7 e0 (fun i i0 i1 => k1 i (by omega) (by omega) (by omega))⟩
  · rw [e2] at q1
    have hne : q ≠ p := fun z => by
      subst z
      exact k3 hq
    have c0 := hc.1
    have c1 := hc.2
    have h6 := (hI.2.2.2.2.2.2.1 q q0 q1).2.2.2.2.2.2.2.1
    rw [k2 q 4 q0 q1 (by decide) (by decide) (Or.inl hne)] at hq
    rw [k2 q 6 q0 q1 (by decide) (by decide) (Or.inl hne)] at r1 ⊢
    rw [k2 q 3 q0 q1 (by decide) (by decide) (Or.inl hne)] at hz
    rw [k2 q (7 + 8 * r + c) q0 q1 (by omega) (by omega) (Or.inl hne), e4]
    exact a3 q r c q0 q1 hq r0 r1 hz hc
  · have hne : q ≠ p := fun z => by
      subst z
      exact k3 hq
    have hs1 := (hI.2.2.2.2.2.2.1 q q0 q1).2.1
    refine ⟨by rw [← k2 q 4 q0 q1 (by decide) (by decide) (Or.inl hne)]; exact hq, ?_⟩
    show zDe p V (72 + 4 * zDe p V (96 + 47 * q + 1) + 0) = V (72 + 4 * V (96 + 47 * q + 1) + 0)
    rw [k2 q 1 q0 q1 (by decide) (by decide) (Or.inl hne), k5 _ hs1.1 hs1.2]
  · rw [e1] at q1
    rcases k6 q q0 q1 with ⟨z1, z2⟩ | ⟨z1, z2⟩
    · rw [z1, z2]
      exact a5 q q0 q1
    · constructor <;> intro z <;> omega
/-- the tick ends -/
theorem zPk_tkD {zt : Int} {V : Int → Int} (hI : zIV zt V) (h : zPk (fun _ => 1) V) : zPk (fun _ => 0) (zTkD V) := by
  have h0b := hI.1
  have h1b := hI.2.1
  have h2b := hI.2.2.1
  obtain ⟨a1, a2, a3, a4, a5, a6, a7⟩ := h
  obtain ⟨d1, d2, d3⟩ := zTkD_is (V := V)
  refine ⟨zHz_c a1 (d2 0 (by decide) (by decide)) (d2 2 (by decide) (by decide)) (fun q r c q0 q1 r0 r1 c0 c1 => d2 _ (by omega) (by omega)), fun c t hc t0 t1 => ?_, fun q r c q0 q1 hq r0 r1 hz hc => ?_, zOne_c a4 (d2 2 (by decide) (by decide)) (fun q q0 q1 hq => ?_), zLa_c a5 (d2 1 (by decide) (by decide)) (fun i i0 i1 => d2 i (by omega) (by omega)), zId_c a6 (d2 2 (by decide) (by decide)) (fun q q0 q1 => d2 _ (by omega) (by omega)), zTn_c a7 (d2 0 (by decide) (by decide)) (fun i i0 i1 => d2 i (by omega) (by omega))⟩
  · rw [d1] at t0 t1
    rw [d3 c (t % 128) hc (by omega) (by omega)]
    by_cases e : t = V 4 + 108
    · rw [if_pos (by omega)]
    · split
      · rfl
      · exact a2 c t hc (by omega) (by omega)
  · rw [d2 2 (by decide) (by decide)] at q1
    have c0 := hc.1
    have c1 := hc.2
    have h6 := (hI.2.2.2.2.2.2.1 q q0 q1).2.2.2.2.2.2.2.1
    rw [d2 _ (by omega) (by omega)] at hq
    rw [d2 (96 + 47 * q + 6) (by omega) (by omega)] at r1 ⊢
    rw [d2 _ (by omega) (by omega)] at hz
    rw [d2 (96 + 47 * q + (7 + 8 * r + c)) (by omega) (by omega), d1]
    have := a3 q r c q0 q1 hq r0 r1 hz hc
    dsimp only at this ⊢
    omega
  · have hs1 := (hI.2.2.2.2.2.2.1 q q0 q1).2.1
    refine ⟨by rw [← d2 (96 + 47 * q + 4) (by omega) (by omega)]; exact hq, ?_⟩
    show zTkD V (72 + 4 * zTkD V (96 + 47 * q + 1) + 0) = V (72 + 4 * V (96 + 47 * q + 1) + 0)
    rw [d2 (96 + 47 * q + 1) (by omega) (by omega), d2 _ (by omega) (by omega)]
