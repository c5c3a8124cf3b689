/-! .. and by the changes of the messages -/
theorem zGd_ms {t t' : Int} {V V' : Int → Int} (hG : zGd t V) (htt : t ≤ t') (σ : Int → Int) (hσ : ∀ p q, p < q → σ p < σ q) (e : ∀ i, i ≠ 2 → i ≠ 3 → (i < 96 ∨ 472 ≤ i) → V' i = V i) (b2 : 0 ≤ V' 2 ∧ V' 2 ≤ 8) (b3 : V 3 ≤ V' 3 ∧ V' 3 ≤ t')
    (hM : ∀ p, 0 ≤ p → p < V' 2 → (0 ≤ σ p ∧ σ p < V 2 ∧ ∀ k, 0 ≤ k → k < 47 → V' (96 + 47 * p + k) = V (96 + 47 * σ p + k)) ∨
      (p = V' 2 - 1 ∧ V 3 < V' 3 ∧ V' (96 + 47 * p + 0) = V 3 ∧ (0 ≤ V' (96 + 47 * p + 1) ∧ V' (96 + 47 * p + 1) < V 1) ∧ (0 ≤ V' (96 + 47 * p + 2) ∧ V' (96 + 47 * p + 2) < V 1) ∧ (0 ≤ V' (96 + 47 * p + 3) ∧ V' (96 + 47 * p + 3) < 16) ∧ V' (96 + 47 * p + 4) = 119 ∧ ∀ k, 5 ≤ k → k < 47 → V' (96 + 47 * p + k) = 0)) : zGd t' V' := by
  obtain ⟨hI, hD, hz, hr, hd, ho, hl, hi, hn⟩ := hG
  have hI' := hI
  obtain ⟨a0, a1, a2, a3, aT, aH, aM, aR⟩ := hI
  have q0 := e 0 (by decide) (by decide) (by decide)
  have q1 := e 1 (by decide) (by decide) (by decide)
  have q4 := e 4 (by decide) (by decide) (by decide)
  have t3 := a3 3 (by decide) (by decide)
  refine ⟨⟨by rw [q0]; exact a0, by rw [q1]; exact a1, b2, fun i h0 h1 => ?_, fun i h0 h1 => by rw [e i (by omega) (by omega) (by omega)]; exact aT i h0 h1, fun h h0 h1 => ?_, fun p h0 h1 => ?_, fun i h0 h1 => ?_⟩, fun p h0 h1 h2 => ?_, fun p q c p0 p1 r0 r1 c0 c1 => ?_, ?_, fun p q c p0 p1 h100 r0 r1 hb hc => ?_, fun p q p0 pq p1 hp hq => ?_, ?_, fun p q p0 pq p1 => ?_, zTn_c hn q0 (fun i h0 h1 => e i (by omega) (by omega) (by omega))⟩
  · by_cases h3 : i = 3
    · rw [h3]
      omega
    · rw [e i (by omega) h3 (by omega)]
      have := a3 i h0 h1
      omega
  · rw [q1] at h1
    have := aH h h0 h1
    rw [e (72 + 4 * h + 0) (by omega) (by omega) (by omega), e (72 + 4 * h + 1) (by omega) (by omega) (by omega), e (72 + 4 * h + 2) (by omega) (by omega) (by omega), e (72 + 4 * h + 3) (by omega) (by omega) (by omega), q0]
    exact ⟨this.1, this.2.1, by omega, this.2.2.2⟩
  · rcases hM p h0 h1 with ⟨s0, s1, se⟩ | ⟨f0, f1, f2, f3, f4, f5, f6, f7⟩
    · obtain ⟨k1, k2, k3, k4, k5, k6, k7, k8, k9⟩ := aM (σ p) s0 s1
      rw [se 0 (by decide) (by decide), se 1 (by decide) (by decide), se 2 (by decide) (by decide), se 3 (by decide) (by decide), se 4 (by decide) (by decide), se 5 (by decide) (by decide), se 6 (by decide) (by decide), q1]
      exact ⟨by omega, k2, k3, k4, k5, k6, k7, k8, fun q r0 r1 => by rw [se q (by omega) r1]; have := k9 q r0 r1; omega⟩
    · rw [f2, f6, f7 5 (by decide) (by decide), f7 6 (by decide) (by decide), q1]
      exact ⟨by omega, f3, f4, f5, Or.inl rfl, by decide, fun _ => by decide, by decide, fun q r0 r1 => by rw [f7 q (by omega) r1]; omega⟩
  · rw [e i (by omega) (by omega) (by omega)]
    have := aR i h0 h1
    omega
  · rcases hM p h0 h1 with ⟨s0, s1, se⟩ | ⟨f0, f1, f2, f3, f4, f5, f6, f7⟩
    · rw [se 4 (by decide) (by decide)] at h2
      rw [se 6 (by decide) (by decide)]
      exact hD _ s0 s1 h2
    · omega
  · rw [q0] at c0
    rcases hM p p0 p1 with ⟨s0, s1, se⟩ | ⟨f0, f1, f2, f3, f4, f5, f6, f7⟩
    · rw [se _ (by omega) (by omega)]
      exact hz _ q c s0 s1 r0 r1 c0 c1
    · exact f7 _ (by omega) (by omega)
  · exact zRz_c hr q4 (fun c x hc _ _ => e _ (by have := hc.1; omega) (by have := hc.1; omega) (by have := hc.1; omega))
  · rcases hM p p0 p1 with ⟨s0, s1, se⟩ | ⟨f0, f1, f2, f3, f4, f5, f6, f7⟩
    · rw [se 4 (by decide) (by decide)] at h100
      rw [se 6 (by decide) (by decide)] at r1
      rw [se 3 (by decide) (by decide)] at hb
      have := hc.1
      have := hc.2
      have b6 := (aM (σ p) s0 s1).2.2.2.2.2.2.2.1
      rw [se 6 (by decide) (by decide), se _ (by omega) (by omega), q4]
      exact hd (σ p) q c s0 s1 h100 r0 r1 hb hc
    · omega
  · have go : ∀ p, 0 ≤ p → p < V' 2 → V' (96 + 47 * p + 4) = 100 → 0 ≤ σ p ∧ σ p < V 2 ∧ V (96 + 47 * σ p + 4) = 100 ∧ zhm V' p = zhm V (σ p) := fun p p0 p1 hp => by
      rcases hM p p0 p1 with ⟨s0, s1, se⟩ | ⟨f0, f1, f2, f3, f4, f5, f6, f7⟩
      · rw [se 4 (by decide) (by decide)] at hp
        refine ⟨s0, s1, hp, ?_⟩
        have hs := (aM (σ p) s0 s1).2.1
        show V' (72 + 4 * V' (96 + 47 * p + 1) + 0) = V (72 + 4 * V (96 + 47 * σ p + 1) + 0)
        rw [se 1 (by decide) (by decide)]
        exact e _ (by omega) (by omega) (by omega)
      · omega
    obtain ⟨x0, x1, x2, x3⟩ := go p p0 (by omega) hp
    obtain ⟨y0, y1, y2, y3⟩ := go q (by omega) p1 hq
    rw [x3, y3]
    exact ho _ _ x0 (hσ p q pq) y1 x2 y2
  · exact zLa_c hl q1 (fun i h0 h1 => e i (by omega) (by omega) (by omega))
  · rcases hM q (by omega) p1 with ⟨s0, s1, se⟩ | ⟨f0, f1, f2, f3, f4, f5, f6, f7⟩
    · rcases hM p p0 (by omega) with ⟨u0, u1, ue⟩ | ⟨g0, g1, g2, g3, g4, g5, g6, g7⟩
      · rw [ue 0 (by decide) (by decide), se 0 (by decide) (by decide)]
        exact hi _ _ u0 (hσ p q pq) s1
      · omega
    · rcases hM p p0 (by omega) with ⟨u0, u1, ue⟩ | ⟨g0, g1, g2, g3, g4, g5, g6, g7⟩
      · rw [ue 0 (by decide) (by decide), f2]
        exact (aM _ u0 u1).1.2
      · omega
theorem zG_Say {t s r n : Int} {V : Int → Int} (hG : zGd t V) : zGd (t + 1) (zdSay s r n V).2.2 := by
  have up : ∀ W' : Int → Int, zGd t W' → zGd (t + 1) W' := fun W' h => ⟨zIV_mono h.1 (by omega), h.2⟩
  unfold zdSay
  by_cases h : ¬ (zisH V s ∧ zisH V r)
  · rw [if_pos h]
    exact up _ hG
  rw [if_neg h]
  by_cases h2 : s = r ∨ ¬ (0 ≤ n ∧ n ≤ 15)
  · rw [if_pos h2]
    exact up _ hG
  rw [if_neg h2]
  by_cases h3 : V 2 = 8
  · rw [if_pos h3]
    exact up _ hG
  rw [if_neg h3]
  show zGd (t + 1) (zdSayR s r n V)
  have v2 := hG.1.2.2.1
  have v3 := hG.1.2.2.2.1 3 (by decide) (by decide)
  refine zGd_ms hG (by omega) (fun p => p) (fun p q h => h) (fun i i2 i3 hi => zSay_o v2.1 ⟨i2, i3, by omega⟩) (by rw [zSay_2]; omega) (by rw [zSay_3]; omega) (fun p p0 p1 => ?_)
  rw [zSay_2] at p1
  by_cases hp : p = V 2
  · refine Or.inr ?_
    rw [hp, zSay_2, zSay_3, zSay_m0 v2.1, zSay_m1 v2.1, zSay_m2 v2.1, zSay_m3 v2.1, zSay_m4 v2.1]
    exact ⟨by omega, by omega, rfl, by omega, by omega, by omega, rfl, fun k k0 k1 => zSay_mz v2.1 k0 k1⟩
  · exact Or.inl ⟨p0, by omega, fun k k0 k1 => zSay_o v2.1 ⟨by omega, by omega, by omega⟩⟩
theorem zG_Fo {t x : Int} {V : Int → Int} (hG : zGd t V) : zGd t (zdFo x V).2.2 := by
  unfold zdFo
  by_cases h : zpl x V < 0
  · rw [if_pos h]
    exact hG
  rw [if_neg h]
  by_cases h2 : V (96 + 47 * zpl x V + 4) = 100
  · rw [if_pos h2]
    exact hG
  rw [if_neg h2]
  show zGd t (zdFoR (zpl x V) V)
  have v2 := hG.1.2.2.1
  have v3 := hG.1.2.2.2.1 3 (by decide) (by decide)
  have hpl : zpl x V < V 2 := by
    have := zlast_bd (P := fun q => V (96 + 47 * q + 0) = x) (V 2).toNat
    show zlast _ _ < V 2
    omega
  generalize zpl x V = p at *
  have hp : 0 ≤ p ∧ p < V 2 := ⟨by omega, hpl⟩
  have e3 : zdFoR p V 3 = V 3 := zFo_o hp ⟨by omega, by omega⟩ v2.2
  refine zGd_ms hG (Int.le_refl t) (fun q => if q < p then q else q + 1) (fun a b h => ?_) (fun i i2 i3 hi => zFo_o hp ⟨i2, by omega⟩ v2.2) (by rw [zFo_2 hp]; omega) (by rw [e3]; omega) (fun q q0 q1 => Or.inl ?_)
  · show (if a < p then a else a + 1) < (if b < p then b else b + 1)
    split <;> split <;> omega
  · rw [zFo_2 hp] at q1
    by_cases hq : q < p
    · show 0 ≤ (if q < p then q else q + 1) ∧ (if q < p then q else q + 1) < V 2 ∧ ∀ k, 0 ≤ k → k < 47 → zdFoR p V (96 + 47 * q + k) = V (96 + 47 * (if q < p then q else q + 1) + k)
      rw [if_pos hq]
      exact ⟨q0, by omega, fun k k0 k1 => zFo_o hp ⟨by omega, by omega⟩ v2.2⟩
    · show 0 ≤ (if q < p then q else q + 1) ∧ (if q < p then q else q + 1) < V 2 ∧ ∀ k, 0 ≤ k → k < 47 → zdFoR p V (96 + 47 * q + k) = V (96 + 47 * (if q < p then q else q + 1) + k)
      rw [if_neg hq]
      exact ⟨by omega, by omega, fun k k0 k1 => zFo_m hp ⟨by omega, by omega⟩ ⟨k0, k1⟩⟩
