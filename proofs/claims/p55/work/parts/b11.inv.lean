/-! what the changes keep -/
abbrev zNn (V : Int → Int) : Prop := zNv (fun _ => 1) V
theorem zNn_lo {t : Int} {V V' : Int → Int} (hI : zIV t V) (h : zNn V) (e : ∀ i, (1 ≤ i ∧ i < 8 ∨ 96 ≤ i) → V' i = V i) (eh : ∀ h, 0 ≤ h → h < V 1 → V' (72 + 4 * h + 2) = V (72 + 4 * h + 2)) : zNn V' :=
  zNv_c h (e 1 (by omega)) (e 2 (by omega)) (e 6 (by omega)) eh (fun p k p0 p1 k0 k1 => e _ (by omega))
theorem zNn_AC {t : Int} {V : Int → Int} (hI : zIV t V) (h : zNn V) : zNn (zdAC V).2.2 := by
  unfold zdAC
  split
  · exact h
  · exact zNn_lo hI h (fun i hi => zup_ne (by omega)) (fun q q0 q1 => zup_ne (by omega))
theorem zNn_tun {t a b d : Int} {V : Int → Int} (hI : zIV t V) (h : zNn V) (ha : zisC V a) (hb : zisC V b) : zNn (zup (zup V (8 + 8 * a + b) d) (8 + 8 * b + a) d) := by
  have h8 := hI.1.2
  have a0 := ha.1
  have a1 := ha.2
  have b0 := hb.1
  have b1 := hb.2
  exact zNn_lo hI h (fun i hi => by rw [zup_ne (by omega), zup_ne (by omega)]) (fun q q0 q1 => by rw [zup_ne (by omega), zup_ne (by omega)])
theorem zNn_AT {t a b d : Int} {V : Int → Int} (hI : zIV t V) (h : zNn V) : zNn (zdAT a b d V).2.2 := by
  unfold zdAT
  split
  · exact h
  · rename_i h1
    split
    · exact h
    · split
      · exact h
      · have h2 := Decidable.not_not.mp h1
        exact zNn_tun hI h h2.1 h2.2
theorem zNn_RT {t a b : Int} {V : Int → Int} (hI : zIV t V) (h : zNn V) : zNn (zdRT a b V).2.2 := by
  unfold zdRT
  split
  · exact h
  · rename_i h1
    split
    · exact h
    · have h2 := Decidable.not_not.mp h1
      exact zNn_tun hI h h2.1 h2.2
theorem zNn_AH {t c : Int} {V : Int → Int} (hI : zIV t V) (h : zNn V) : zNn (zdAH c V).2.2 := by
  unfold zdAH
  split
  · exact h
  · split
    · exact h
    · rename_i h6
      have v1 := hI.2.1
      obtain ⟨a, b, d, e⟩ := h
      have eo : ∀ i, (i < 72 + 4 * V 1 ∨ 72 + 4 * V 1 + 3 < i) → i ≠ 1 → zup (zup (zup (zup (zup V (72 + 4 * V 1) c) (72 + 4 * V 1 + 1) 1) (72 + 4 * V 1 + 2) 0) (72 + 4 * V 1 + 3) 0) 1 (V 1 + 1) i = V i := fun i h1 h2 => by rw [zup_ne h2, zup_ne (by omega), zup_ne (by omega), zup_ne (by omega), zup_ne (by omega)]
      have e1 : zup (zup (zup (zup (zup V (72 + 4 * V 1) c) (72 + 4 * V 1 + 1) 1) (72 + 4 * V 1 + 2) 0) (72 + 4 * V 1 + 3) 0) 1 (V 1 + 1) 1 = V 1 + 1 := zup_same _ _ _
      have er : zup (zup (zup (zup (zup V (72 + 4 * V 1) c) (72 + 4 * V 1 + 1) 1) (72 + 4 * V 1 + 2) 0) (72 + 4 * V 1 + 3) 0) 1 (V 1 + 1) (72 + 4 * V 1 + 2) = 0 := by rw [zup_ne (by omega), zup_ne (by omega), zup_same]
      show zNn (zup (zup (zup (zup (zup V (72 + 4 * V 1) c) (72 + 4 * V 1 + 1) 1) (72 + 4 * V 1 + 2) 0) (72 + 4 * V 1 + 3) 0) 1 (V 1 + 1))
      generalize zup (zup (zup (zup (zup V (72 + 4 * V 1) c) (72 + 4 * V 1 + 1) 1) (72 + 4 * V 1 + 2) 0) (72 + 4 * V 1 + 3) 0) 1 (V 1 + 1) = V' at *
      have e2 := eo 2 (by omega) (by decide)
      refine ⟨fun p p0 p1 => ?_, fun p p0 p1 => ?_, fun p p0 p1 => ?_, ?_⟩
      · rw [e2] at p1
        rw [eo _ (by omega) (by omega), eo _ (by omega) (by omega)]
        exact a p p0 p1
      · rw [e2] at p1
        rw [eo _ (by omega) (by omega), eo _ (by omega) (by omega)]
        exact b p p0 p1
      · rw [e2] at p1
        rw [eo (96 + 47 * p + 4) (by omega) (by omega), eo (96 + 47 * p + 6) (by omega) (by omega)]
        exact d p p0 p1
      · show zSr V' (V' 1).toNat = V' 6
        rw [eo 6 (by omega) (by decide), ← e, e1, show (V 1 + 1).toNat = (V 1).toNat + 1 by omega]
        show zSr V' (V 1).toNat + V' (72 + 4 * (((V 1).toNat : Nat) : Int) + 2) = _
        rw [zSr_c _ (fun q q0 q1 => eo _ (by omega) (by omega)), show (((V 1).toNat : Nat) : Int) = V 1 by omega, er]
        omega
theorem zNn_Mv {t x c : Int} {V : Int → Int} (hI : zIV t V) (h : zNn V) : zNn (zdMv x c V).2.2 := by
  unfold zdMv
  split
  · exact h
  · rename_i h1
    split
    · exact h
    · have h2 := (Decidable.not_not.mp h1).1
      have h6 := hI.2.1.2
      have q0 := h2.1
      have q1 := h2.2
      exact zNn_lo hI h (fun i hi => zup_ne (by omega)) (fun q z0 z1 => zup_ne (by omega))
theorem zNn_Li {t x : Int} {P : Prop} [Decidable P] {V : Int → Int} (hI : zIV t V) (h : zNn V) : zNn (zdLi x P V).2.2 := by
  unfold zdLi
  split
  · exact h
  · rename_i h1
    have h2 := Decidable.not_not.mp h1
    have h6 := hI.2.1.2
    have q0 := h2.1
    have q1 := h2.2
    exact zNn_lo hI h (fun i hi => zup_ne (by omega)) (fun q z0 z1 => zup_ne (by omega))
theorem zNn_Say {t s r n : Int} {V : Int → Int} (hI : zIV t V) (h : zNn V) : zNn (zdSay s r n V).2.2 := by
  unfold zdSay
  split
  · exact h
  · split
    · exact h
    · rename_i hsr
      split
      · exact h
      · rename_i h8
        have v2 := hI.2.2.1
        have v1 := hI.2.1
        obtain ⟨a, b, d, e⟩ := h
        show zNn (zdSayR s r n V)
        have eo : ∀ j, j ≠ 2 → j ≠ 3 → (j < 96 + 47 * V 2 ∨ 96 + 47 * V 2 + 47 ≤ j) → zdSayR s r n V j = V j := fun j h1 h2 h3 => zSay_o v2.1 ⟨h1, h2, h3⟩
        have k2 : zdSayR s r n V 2 = V 2 + 1 := zSay_2
        refine ⟨fun p p0 p1 => ?_, fun p p0 p1 => ?_, fun p p0 p1 => ?_, ?_⟩
        · rw [k2] at p1
          by_cases hp : p = V 2
          · rw [hp, zSay_m1 v2.1, zSay_m2 v2.1]
            exact fun z => hsr (Or.inl z)
          · rw [eo _ (by omega) (by omega) (by omega), eo _ (by omega) (by omega) (by omega)]
            exact a p p0 (by omega)
        · rw [k2] at p1
          by_cases hp : p = V 2
          · rw [hp, zSay_m4 v2.1, zSay_mz v2.1 (by decide) (by decide)]
            decide
          · rw [eo _ (by omega) (by omega) (by omega), eo _ (by omega) (by omega) (by omega)]
            exact b p p0 (by omega)
        · rw [k2] at p1
          by_cases hp : p = V 2
          · rw [hp, zSay_m4 v2.1, zSay_mz v2.1 (by decide) (by decide)]
            exact ⟨fun z => absurd z (by decide), fun _ => rfl⟩
          · rw [eo (96 + 47 * p + 4) (by omega) (by omega) (by omega), eo (96 + 47 * p + 6) (by omega) (by omega) (by omega)]
            exact d p p0 (by omega)
        · show zSr _ (zdSayR s r n V 1).toNat = zdSayR s r n V 6
          rw [eo 1 (by omega) (by omega) (by omega), eo 6 (by omega) (by omega) (by omega), zSr_c _ (fun q q0 q1 => eo _ (by omega) (by omega) (by omega))]
          exact e
theorem zNn_Fo {t x : Int} {V : Int → Int} (hI : zIV t V) (h : zNn V) : zNn (zdFo x V).2.2 := by
  unfold zdFo
  split
  · exact h
  · rename_i h1
    split
    · exact h
    · have v2 := hI.2.2.1
      have v1 := hI.2.1
      have hpl : zpl x V < V 2 := by
        have := zlast_bd (P := fun q => V (96 + 47 * q + 0) = x) (V 2).toNat
        show zlast _ _ < V 2
        omega
      show zNn (zdFoR (zpl x V) V)
      generalize zpl x V = p at *
      have hp : 0 ≤ p ∧ p < V 2 := ⟨by omega, hpl⟩
      obtain ⟨a, b, d, e⟩ := h
      have eo : ∀ j, j ≠ 2 → j < 96 → zdFoR p V j = V j := fun j j2 j9 => zFo_o hp ⟨j2, by omega⟩ v2.2
      have em : ∀ q, 0 ≤ q → q < V 2 - 1 → ∃ w, (0 ≤ w ∧ w < V 2) ∧ ∀ k, 0 ≤ k → k < 47 → zdFoR p V (96 + 47 * q + k) = V (96 + 47 * w + k) := fun q q0 q1 => by
        by_cases hq : q < p
        · exact ⟨q, ⟨q0, by omega⟩, fun k k0 k1 => zFo_o hp ⟨by omega, by omega⟩ v2.2⟩
        · exact ⟨q + 1, ⟨by omega, by omega⟩, fun k k0 k1 => zFo_m hp ⟨by omega, by omega⟩ ⟨k0, k1⟩⟩
      have k2 := zFo_2 (V := V) hp
      refine ⟨fun q q0 q1 => ?_, fun q q0 q1 => ?_, fun q q0 q1 => ?_, ?_⟩
      · rw [k2] at q1
        obtain ⟨w, hw, ew⟩ := em q q0 q1
        rw [ew 1 (by decide) (by decide), ew 2 (by decide) (by decide)]
        exact a w hw.1 hw.2
      · rw [k2] at q1
        obtain ⟨w, hw, ew⟩ := em q q0 q1
        rw [ew 4 (by decide) (by decide), ew 5 (by decide) (by decide)]
        exact b w hw.1 hw.2
      · rw [k2] at q1
        obtain ⟨w, hw, ew⟩ := em q q0 q1
        rw [ew 4 (by decide) (by decide), ew 6 (by decide) (by decide)]
        exact d w hw.1 hw.2
      · show zSr _ (zdFoR p V 1).toNat = zdFoR p V 6
        rw [eo 1 (by decide) (by decide), eo 6 (by decide) (by decide), zSr_c _ (fun q q0 q1 => eo _ (by omega) (by omega))]
        exact e
theorem zNn_PT {t n : Int} {V : Int → Int} (hG : zGd t V) (h : zNn V) : zNn (zdPT n V).2.2 := by
  unfold zdPT
  split
  · exact h
  · exact zNv_tks hG.1 hG.2.1 h n.toNat
theorem zNn_C {t k a b c : Int} {V : Int → Int} (hG : zGd t V) (h : zNn V) : zNn (zdC k a b c V).2.2 := by
  unfold zdC
  split
  · exact zNn_AT hG.1 h
  · split
    · exact zNn_AH hG.1 h
    · split
      · exact zNn_Say hG.1 h
      · split
        · exact zNn_Li hG.1 h
        · split
          · exact zNn_Li hG.1 h
          · split
            · exact zNn_Mv hG.1 h
            · split
              · exact zNn_PT hG h
              · exact zNn_AC hG.1 h
theorem zNn_Vi {T : Int → Int} {n t : Int} {V : Int → Int} (hG : zGd t V) (ht : 0 ≤ t) (h : zNn V) (i : Nat) : zNn (zVi T n V i) := by
  induction i with
  | zero => exact h
  | succ i ih => exact zNn_C (zG_Vi hG ht i) ih
