/-! class and model agree at the start -/
abbrev z00 : Int → Int := fun _ => 0
theorem zGd_0 : zGd 0 z00 := by
  refine ⟨⟨⟨by decide, by decide⟩, ⟨by decide, by decide⟩, ⟨by decide, by decide⟩, fun _ _ _ => ⟨(by show (0 : Int) ≤ 0; decide), (by show (0 : Int) ≤ 0; decide)⟩, fun _ _ _ => ⟨(by show (0 : Int) ≤ 0; decide), (by show (0 : Int) ≤ 9; decide)⟩, fun h h0 h1 => ?_, fun p p0 p1 => ?_, fun _ _ _ => ⟨(by show (0 : Int) ≤ 0; decide), (by show (0 : Int) ≤ 0; decide)⟩⟩, fun p p0 p1 => ?_, ?_⟩
  · exact absurd (show h < 0 from h1) (by omega)
  · exact absurd (show p < 0 from p1) (by omega)
  · exact absurd (show p < 0 from p1) (by omega)
  · refine ⟨fun p q c p0 p1 => ?_, fun _ _ _ _ _ => rfl, fun p q c p0 p1 => ?_, fun p q p0 pq q1 => ?_, fun h h0 h1 => ?_, fun p q p0 pq q1 => ?_, ⟨fun _ _ _ _ => rfl, fun _ _ _ _ _ => rfl⟩⟩
    · exact absurd (show p < 0 from p1) (by omega)
    · exact absurd (show p < 0 from p1) (by omega)
    · exact absurd (show q < 0 from q1) (by omega)
    · exact absurd (show h < 0 from h1) (by omega)
    · exact absurd (show q < 0 from q1) (by omega)
theorem zRp_0 {b : Int} (hb : zB b) : zRp b mF := by
  have e : ∀ p, mF (b + 6) p = b + 15 + 2 * p := fun p => by
    unfold mF
    rw [if_pos]
    · omega
    · rcases hb with (rfl | rfl | rfl) | ⟨t, t0, t9, rfl⟩
      · exact Or.inl ⟨by omega, by omega, by omega⟩
      · exact Or.inl ⟨by omega, by omega, by omega⟩
      · exact Or.inl ⟨by omega, by omega, by omega⟩
      · exact Or.inr ⟨by omega, by omega, by omega⟩
  refine ⟨fun p h => ⟨hb, p, h.1, h.2, e p⟩, fun p q h1 h2 h => ?_⟩
  rw [e, e] at h
  omega
theorem mM_S {i : Int} (h : 1 ≤ i ∧ i < 32 ∧ i ≠ 4) (j : Int) : mM i j = 0 := by rw [mM_0 (by omega) (by omega) (by omega) (by omega)]
theorem zRS_0 : zRS 1 z00 mM mF := by
  refine ⟨⟨?_, ?_, ?_, ?_, ?_, ?_, ?_, ?_, ?_⟩, fun i i0 i1 => mM_S (by omega) _, fun a c ha hc => ?_, fun h h0 h1 => ?_, zRp_0 (Or.inl (Or.inl rfl)), fun p p0 p1 => ?_, fun c t hc t0 t1 => mM_S (by omega) _⟩
  · exact mM_S (by omega) _
  · rw [mM_S (by omega)]; decide +kernel
  · exact mM_S (by omega) _
  · exact mM_S (by omega) _
  · exact mM_S (by omega) _
  · exact mM_S (by omega) _
  · exact mM_S (by omega) _
  · exact mM_S (by omega) _
  · exact mM_S (by omega) _
  · show mM (1 + 3) (8 * a + c) = zBF z00 a c
    unfold mM
    rw [if_pos (by omega)]
    unfold wz
    rw [if_pos (by omega), show (8 * a + c) / 8 = a by omega, show (8 * a + c) % 8 = c by omega]
  · exact absurd (show h < 0 from h1) (by omega)
  · exact absurd (show p < 0 from p1) (by omega)
theorem mM_m {i : Int} (h : 376 ≤ i) (h2 : i ≠ 398) (j : Int) : mM i j = 0 := by rw [mM_0 (by omega) (by omega) (by omega) (by omega)]
theorem mM_398 {j : Int} (h : j ≠ 15) (h2 : j ≠ 16) : mM 398 j = 0 := by
  unfold mM
  rw [if_neg (by omega), if_neg (by omega)]
theorem zCR_0 : zCR 0 0 mM mF := by
  refine ⟨z00, 0, z00, 0, (fun _ => z00), -1, -1, z00, 0, ⟨zRS_0, ⟨zRp_0 (Or.inl (Or.inr (Or.inl rfl))), zRp_0 (Or.inl (Or.inr (Or.inr rfl)))⟩, ⟨?_, fun z => absurd z (by decide)⟩, ⟨?_, ?_, ⟨by decide, by decide⟩, fun k k0 k1 => by omega, fun t t0 t9 => zRp_0 (Or.inr ⟨t, t0, t9, rfl⟩)⟩, ⟨?_, ?_⟩, ⟨funext fun j => mM_m (by omega) (by omega) j, ?_, ⟨by decide, by decide⟩⟩⟩, ⟨funext fun j => mM_m (by omega) (by omega) j, ⟨mM_398 (by omega) (by omega), fun z => absurd z (by decide)⟩, ⟨mM_398 (by omega) (by omega), fun k j k0 k1 => by omega⟩, ⟨⟨?_, by decide⟩, ?_, by decide⟩, ⟨funext fun j => mM_m (by omega) (by omega) j, mM_398 (by omega) (by omega)⟩⟩, ⟨⟨by decide, zGd_0, by decide⟩, ⟨Or.inl rfl, fun z => absurd z (by decide)⟩, fun k k0 k1 => by omega, fun _ => ⟨(by show (0 : Int) ≤ 0; decide), (by show (0 : Int) < 65536; decide)⟩⟩, ⟨⟨mM_m (by omega) (by omega) _, by rw [mM_m (by omega) (by omega)]; decide, by rw [mM_m (by omega) (by omega), mM_398 (by omega) (by omega)], fun j j0 j1 => ?_⟩, by rw [mM_m (by omega) (by omega)]; decide⟩⟩
  · unfold mM
    rw [if_neg (by omega), if_neg (by omega)]
  · rw [mM_0 (by omega) (by omega) (by omega) (by omega)]
  · rw [mM_0 (by omega) (by omega) (by omega) (by omega)]
    exact ⟨by decide, by decide⟩
  · unfold mM
    rw [if_neg (by omega), if_pos (by omega)]
  · unfold mM
    rw [if_neg (by omega), if_pos (by omega)]
  · unfold mM
    rw [if_neg (by omega), if_neg (by omega)]
  · unfold mM
    rw [if_neg (by omega), if_pos (by omega)]
  · unfold mM
    rw [if_neg (by omega), if_pos (by omega)]
  · rw [mM_m (by omega) (by omega)] at j1
    omega
