/-! the nine changes through the law's helpers -/
theorem nOK4 {M1 : zMem} {W A w : Int → Int} : ∃ N, zpush (zrow (zrow (zrow (zu M1 398 8 0) 400 A) 399 W) 404 w) = zpush N ∧ N 399 = W ∧ N 400 = A ∧ (∀ i, i ≠ 398 → i ≠ 399 → i ≠ 400 → i ≠ 404 → N i = M1 i) ∧ N 398 8 = 0 ∧ ∀ j, j ≠ 8 → N 398 j = M1 398 j := by
  refine ⟨_, rfl, ?_, ?_, fun i a1 a2 a3 a4 => ?_, ?_, fun j j0 => ?_⟩
  · rw [zrow_ne (by omega)]; exact if_pos rfl
  · rw [zrow_ne (by omega), zrow_ne (by omega)]; exact if_pos rfl
  · rw [zrow_ne a4, zrow_ne a2, zrow_ne a3, zu_row a1]
  · rw [zrow_ne (by omega), zrow_ne (by omega), zrow_ne (by omega), zu_same]
  · rw [zrow_ne (by omega), zrow_ne (by omega), zrow_ne (by omega), zu_ne (by omega)]
theorem nOK3 {M1 : zMem} {W : Int → Int} : ∃ N, zOK M1 W = zpush N ∧ N 399 = W ∧ N 400 = M1 399 ∧ (∀ i, i ≠ 398 → i ≠ 399 → i ≠ 400 → i ≠ 404 → N i = M1 i) ∧ N 398 8 = 0 ∧ ∀ j, j ≠ 8 → N 398 j = M1 398 j := by
  refine ⟨_, rfl, ?_, ?_, fun i a1 a2 a3 a4 => ?_, ?_, fun j j0 => ?_⟩
  · exact if_pos rfl
  · rw [zrow_ne (by omega)]; exact if_pos rfl
  · rw [zrow_ne a2, zrow_ne a3, zu_row a1]
  · rw [zrow_ne (by omega), zrow_ne (by omega), zu_same]
  · rw [zrow_ne (by omega), zrow_ne (by omega), zu_ne (by omega)]
theorem lw_addChamber (l : Launch) (g : zG) (ad : Int → Nat) {t d : Int} {M F : zMem} (h : zCR t d M F) (ht : t ≤ 50000000) (hd : d ≤ 9000) (hRM : zRM M) : zLS l g ad yL_addChamber cL_addChamber 3 [(0, 8, 11, 13)] 9 1 6 [.ref (ad 0), .ref (ad 408)] yX12_addChamber cX12_addChamber 1 (some .int) 2 [.ref (ad 398)] M F (zAi (t + 7000) (d + 9)) := by
  obtain ⟨V, sv, S, many, U, ep, fc, T, n, hK, hMo, hB, hO⟩ := id h
  have hV := hMo.1
  have hG := hB.1.2.1
  have hI := hG.1
  have hpd := pd_AC (V := V)
  have hG' : zGd (t + 7000) (zdAC V).2.2 := zGd_up (zG_AC hG) (by omega)
  have hmb := hK.2.2.2.1.2.2.1
  refine ⟨_, ch_addChamber l g ad M F  _ _ (ct_X11_addChamber l g ad M F V t (t + 7000) many U  hK.1 hG hK.2.2.2.1 hG'.1) (fun E M' F' q => ?_), fun k M1 F1 hp hR1 => ?_⟩
  · obtain ⟨f, rfl, f0, hf, _⟩ := q
    rcases ft_2 hpd.1 hf with ⟨_, rfl⟩ | ⟨_, rfl⟩
    · omega
    · exact (by decide)
  have hc : ((zdAC V).1 = 0 ∧ k = 0 ∧ ∃ M0, zRS 1 (zdAC V).2.2 M0 F1 ∧ zHi t (zm8 many) (fun k => if k = 0 then V else U (k - 1)) M0 F1 ∧ zFr M F M0 F1 ∧ M1 = zu M0 408 0 ((zdAC V).2.2 0 - 1)) ∨ (0 < (zdAC V).1 ∧ k = (zdAC V).1 ∧ zRS 1 (zdAC V).2.2 M1 F1 ∧ zHi t many U M1 F1 ∧ zFr M F M1 F1) := by
    rcases hp with ⟨rfl, r, M0, hr, ⟨hf, rfl, a1, a2, a3⟩, rfl⟩ | ⟨rfl, f, e9, f0, hf, a1, a2, a3⟩
    · refine Or.inl ⟨?_, rfl, M0, a1, a2, a3, rfl⟩
      rcases ft_2 hpd.1 hf with ⟨z, q9⟩ | ⟨z, q9⟩
      · exact z
      · omega
    · refine Or.inr ?_
      rcases ft_2 hpd.1 hf with ⟨z, rfl⟩ | ⟨z, rfl⟩
      · omega
      · exact ⟨by omega, z.symm, a1, a2, a3⟩
  have row : ∀ i, 398 ≤ i → i ≠ 408 → M1 i = M i := fun i i0 i1 => by
    rcases hc with ⟨_, _, M0, _, _, a3, rfl⟩ | ⟨_, _, _, _, a3⟩
    · exact (zu_row i1).trans (a3 i (by omega) (by omega)).1
    · exact (a3 i (by omega) (by omega)).1
  have hV1 : M1 399 = V := (row 399 (by omega) (by omega)).trans hV
  have e6 : M1 398 6 = many := (congrFun (row 398 (by omega) (by omega)) 6).trans hMo.2.2.1.1
  refine ⟨_, ct_X12_addChamber l g ad M1 F1  (by rw [hV1]; exact hI.1) (by rw [e6]; exact hmb), fun v M2 F2 hm => ?_⟩
  obtain ⟨b, rfl, hb, hm⟩ := hm
  rw [hV1] at hm
  have hm2 : (0 < (zdAC V).1 ∧ M2 = zFL M1 (zdAC V).1) ∨ ((zdAC V).1 = 0 ∧ ((zdAC V).2.2 0 - 1) = b ∧ ∃ N, M2 = zpush N ∧ N 399 = (zdAC V).2.2 ∧ N 400 = M1 399 ∧ (∀ i, i ≠ 398 → i ≠ 399 → i ≠ 400 → i ≠ 404 → N i = M1 i) ∧ N 398 8 = 0 ∧ ∀ j, j ≠ 8 → N 398 j = M1 398 j) := by
    rcases hm with ⟨h0, _, rfl, _⟩ | ⟨h0, e1, rfl, _⟩
    · exact Or.inl ⟨h0, rfl⟩
    · exact Or.inr ⟨h0, (hpd.2.2.1 h0).trans e1, nOK3⟩
  have hF2 : F2 = F1 := by rcases hm with ⟨_, _, _, e⟩ | ⟨_, _, _, e⟩ <;> exact e.symm
  obtain ⟨g1, g2, g3⟩ := lc_std hK hMo hB hO hRM hpd.2.1 hpd.2.2.2 hG' hc hm2 hF2
  exact ⟨b, rfl, hb, g1, g2, g3⟩
theorem lw_addTunnel (l : Launch) (g : zG) (ad : Int → Nat) {t d : Int} {M F : zMem} (h : zCR t d M F) (ht : t ≤ 50000000) (hd : d ≤ 9000) (hRM : zRM M) (x0 : Int) (hx0 : zR x0) (x1 : Int) (hx1 : zR x1) (x2 : Int) (hx2 : zR x2) : zLS l g ad yL_addTunnel cL_addTunnel 6 [(0, 12, 15, 19), (0, 12, 19, 21), (0, 12, 23, 13)] 9 1 6 [.ref (ad 0), .int (zI x0), .int (zI x1), .int (zI x2), .ref (ad 408)] yX12_addTunnel cX12_addTunnel 4 (some .int) 3 [.ref (ad 398), .int (zI x0), .int (zI x1), .int (zI x2)] M F (zAi (t + 7000) (d + 9)) := by
  obtain ⟨V, sv, S, many, U, ep, fc, T, n, hK, hMo, hB, hO⟩ := id h
  have hV := hMo.1
  have hG := hB.1.2.1
  have hI := hG.1
  have hpd := pd_AT (a := x0) (b := x1) (d := x2) (V := V)
  have hG' : zGd (t + 7000) (zdAT x0 x1 x2 V).2.2 := zGd_up (zG_AT hG) (by omega)
  have hmb := hK.2.2.2.1.2.2.1
  refine ⟨_, ch_addTunnel l g ad M F x0 x1 x2 _ _ (ct_X11_addTunnel l g ad M F V t (t + 7000) many U x0 hx0 x1 hx1 x2 hx2 hK.1 hG hK.2.2.2.1 hG.tn hG'.1) (fun E M' F' q => ?_), fun k M1 F1 hp hR1 => ?_⟩
  · obtain ⟨f, rfl, f0, hf, _⟩ := q
    rcases ft_4 hpd.1 hf with ⟨_, rfl⟩ | ⟨_, rfl⟩ | ⟨_, rfl⟩ | ⟨_, rfl⟩
    · omega
    · exact Or.inl (by decide)
    · exact Or.inr (Or.inl (by decide))
    · exact Or.inr (Or.inr ((by decide)))
  have hc : ((zdAT x0 x1 x2 V).1 = 0 ∧ k = 0 ∧ ∃ M0, zRS 1 (zdAT x0 x1 x2 V).2.2 M0 F1 ∧ zHi t (zm8 many) (fun k => if k = 0 then V else U (k - 1)) M0 F1 ∧ zFr M F M0 F1 ∧ M1 = zu M0 408 0 (zTu ((zdAT x0 x1 x2 V).2.2))) ∨ (0 < (zdAT x0 x1 x2 V).1 ∧ k = (zdAT x0 x1 x2 V).1 ∧ zRS 1 (zdAT x0 x1 x2 V).2.2 M1 F1 ∧ zHi t many U M1 F1 ∧ zFr M F M1 F1) := by
    rcases hp with ⟨rfl, r, M0, hr, ⟨hf, rfl, a1, a2, a3⟩, rfl⟩ | ⟨rfl, f, e9, f0, hf, a1, a2, a3⟩ | ⟨rfl, f, e9, f0, hf, a1, a2, a3⟩ | ⟨rfl, f, e9, f0, hf, a1, a2, a3⟩
    · refine Or.inl ⟨?_, rfl, M0, a1, a2, a3, rfl⟩
      rcases ft_4 hpd.1 hf with ⟨z, q9⟩ | ⟨z, q9⟩ | ⟨z, q9⟩ | ⟨z, q9⟩
      · exact z
      · omega
      · omega
      · omega
    · refine Or.inr ?_
      rcases ft_4 hpd.1 hf with ⟨z, rfl⟩ | ⟨z, rfl⟩ | ⟨z, rfl⟩ | ⟨z, rfl⟩
      · omega
      · exact ⟨by omega, z.symm, a1, a2, a3⟩
      · exact absurd e9 (by decide)
      · exact absurd e9 (by decide)
    · refine Or.inr ?_
      rcases ft_4 hpd.1 hf with ⟨z, rfl⟩ | ⟨z, rfl⟩ | ⟨z, rfl⟩ | ⟨z, rfl⟩
      · omega
      · exact absurd e9 (by decide)
      · exact ⟨by omega, z.symm, a1, a2, a3⟩
      · exact absurd e9 (by decide)
    · refine Or.inr ?_
      rcases ft_4 hpd.1 hf with ⟨z, rfl⟩ | ⟨z, rfl⟩ | ⟨z, rfl⟩ | ⟨z, rfl⟩
      · omega
      · exact absurd e9 (by decide)
      · exact absurd e9 (by decide)
      · exact ⟨by omega, z.symm, a1, a2, a3⟩
  have row : ∀ i, 398 ≤ i → i ≠ 408 → M1 i = M i := fun i i0 i1 => by
    rcases hc with ⟨_, _, M0, _, _, a3, rfl⟩ | ⟨_, _, _, _, a3⟩
    · exact (zu_row i1).trans (a3 i (by omega) (by omega)).1
    · exact (a3 i (by omega) (by omega)).1
  have hV1 : M1 399 = V := (row 399 (by omega) (by omega)).trans hV
  have e6 : M1 398 6 = many := (congrFun (row 398 (by omega) (by omega)) 6).trans hMo.2.2.1.1
  refine ⟨_, ct_X12_addTunnel l g ad M1 F1 x0 hx0 x1 hx1 x2 hx2 (by rw [hV1]; exact hI.1) (by rw [e6]; exact hmb), fun v M2 F2 hm => ?_⟩
  obtain ⟨b, rfl, hb, hm⟩ := hm
  rw [hV1] at hm
  have hm2 : (0 < (zdAT x0 x1 x2 V).1 ∧ M2 = zFL M1 (zdAT x0 x1 x2 V).1) ∨ ((zdAT x0 x1 x2 V).1 = 0 ∧ (zTu ((zdAT x0 x1 x2 V).2.2)) = b ∧ ∃ N, M2 = zpush N ∧ N 399 = (zdAT x0 x1 x2 V).2.2 ∧ N 400 = M1 399 ∧ (∀ i, i ≠ 398 → i ≠ 399 → i ≠ 400 → i ≠ 404 → N i = M1 i) ∧ N 398 8 = 0 ∧ ∀ j, j ≠ 8 → N 398 j = M1 398 j) := by
    rcases hm with ⟨h0, _, rfl, _⟩ | ⟨h0, e1, rfl, _⟩
    · exact Or.inl ⟨h0, rfl⟩
    · exact Or.inr ⟨h0, (hpd.2.2.1 h0).trans e1, nOK3⟩
  have hF2 : F2 = F1 := by rcases hm with ⟨_, _, _, e⟩ | ⟨_, _, _, e⟩ <;> exact e.symm
  obtain ⟨g1, g2, g3⟩ := lc_std hK hMo hB hO hRM hpd.2.1 hpd.2.2.2 hG' hc hm2 hF2
  exact ⟨b, rfl, hb, g1, g2, g3⟩
theorem lw_removeTunnel (l : Launch) (g : zG) (ad : Int → Nat) {t d : Int} {M F : zMem} (h : zCR t d M F) (ht : t ≤ 50000000) (hd : d ≤ 9000) (hRM : zRM M) (x0 : Int) (hx0 : zR x0) (x1 : Int) (hx1 : zR x1) : zLS l g ad yL_removeTunnel cL_removeTunnel 5 [(0, 10, 13, 19), (0, 10, 17, 27)] 9 1 6 [.ref (ad 0), .int (zI x0), .int (zI x1), .ref (ad 408)] yX12_removeTunnel cX12_removeTunnel 3 (some .int) 3 [.ref (ad 398), .int (zI x0), .int (zI x1)] M F (zAi (t + 7000) (d + 9)) := by
  obtain ⟨V, sv, S, many, U, ep, fc, T, n, hK, hMo, hB, hO⟩ := id h
  have hV := hMo.1
  have hG := hB.1.2.1
  have hI := hG.1
  have hpd := pd_RT (a := x0) (b := x1) (V := V)
  have hG' : zGd (t + 7000) (zdRT x0 x1 V).2.2 := zGd_up (zG_RT hG) (by omega)
  have hmb := hK.2.2.2.1.2.2.1
  refine ⟨_, ch_removeTunnel l g ad M F x0 x1 _ _ (ct_X11_removeTunnel l g ad M F V t (t + 7000) many U x0 hx0 x1 hx1 hK.1 hG hK.2.2.2.1 hG.tn hG'.1) (fun E M' F' q => ?_), fun k M1 F1 hp hR1 => ?_⟩
  · obtain ⟨f, rfl, f0, hf, _⟩ := q
    rcases ft_3 hpd.1 hf with ⟨_, rfl⟩ | ⟨_, rfl⟩ | ⟨_, rfl⟩
    · omega
    · exact Or.inl (by decide)
    · exact Or.inr ((by decide))
  have hc : ((zdRT x0 x1 V).1 = 0 ∧ k = 0 ∧ ∃ M0, zRS 1 (zdRT x0 x1 V).2.2 M0 F1 ∧ zHi t (zm8 many) (fun k => if k = 0 then V else U (k - 1)) M0 F1 ∧ zFr M F M0 F1 ∧ M1 = zu M0 408 0 (if zisC V x0 ∧ zisC V x1 then V (8 + 8 * x0 + x1) else 0)) ∨ (0 < (zdRT x0 x1 V).1 ∧ k = (zdRT x0 x1 V).1 ∧ zRS 1 (zdRT x0 x1 V).2.2 M1 F1 ∧ zHi t many U M1 F1 ∧ zFr M F M1 F1) := by
    rcases hp with ⟨rfl, r, M0, hr, ⟨hf, rfl, a1, a2, a3⟩, rfl⟩ | ⟨rfl, f, e9, f0, hf, a1, a2, a3⟩ | ⟨rfl, f, e9, f0, hf, a1, a2, a3⟩
    · refine Or.inl ⟨?_, rfl, M0, a1, a2, a3, rfl⟩
      rcases ft_3 hpd.1 hf with ⟨z, q9⟩ | ⟨z, q9⟩ | ⟨z, q9⟩
      · exact z
      · omega
      · omega
    · refine Or.inr ?_
      rcases ft_3 hpd.1 hf with ⟨z, rfl⟩ | ⟨z, rfl⟩ | ⟨z, rfl⟩
      · omega
      · exact ⟨by omega, z.symm, a1, a2, a3⟩
      · exact absurd e9 (by decide)
    · refine Or.inr ?_
      rcases ft_3 hpd.1 hf with ⟨z, rfl⟩ | ⟨z, rfl⟩ | ⟨z, rfl⟩
      · omega
      · exact absurd e9 (by decide)
      · exact ⟨by omega, z.symm, a1, a2, a3⟩
  have row : ∀ i, 398 ≤ i → i ≠ 408 → M1 i = M i := fun i i0 i1 => by
    rcases hc with ⟨_, _, M0, _, _, a3, rfl⟩ | ⟨_, _, _, _, a3⟩
    · exact (zu_row i1).trans (a3 i (by omega) (by omega)).1
    · exact (a3 i (by omega) (by omega)).1
  have hV1 : M1 399 = V := (row 399 (by omega) (by omega)).trans hV
  have e6 : M1 398 6 = many := (congrFun (row 398 (by omega) (by omega)) 6).trans hMo.2.2.1.1
  refine ⟨_, ct_X12_removeTunnel l g ad M1 F1 x0 hx0 x1 hx1 (by rw [hV1]; exact hI.1) (by rw [e6]; exact hmb), fun v M2 F2 hm => ?_⟩
  obtain ⟨b, rfl, hb, hm⟩ := hm
  rw [hV1] at hm
  have hm2 : (0 < (zdRT x0 x1 V).1 ∧ M2 = zFL M1 (zdRT x0 x1 V).1) ∨ ((zdRT x0 x1 V).1 = 0 ∧ (if zisC V x0 ∧ zisC V x1 then V (8 + 8 * x0 + x1) else 0) = b ∧ ∃ N, M2 = zpush N ∧ N 399 = (zdRT x0 x1 V).2.2 ∧ N 400 = M1 399 ∧ (∀ i, i ≠ 398 → i ≠ 399 → i ≠ 400 → i ≠ 404 → N i = M1 i) ∧ N 398 8 = 0 ∧ ∀ j, j ≠ 8 → N 398 j = M1 398 j) := by
    rcases hm with ⟨h0, _, rfl, _⟩ | ⟨h0, e1, rfl, _⟩
    · exact Or.inl ⟨h0, rfl⟩
    · exact Or.inr ⟨h0, (hpd.2.2.1 h0).trans e1, nOK3⟩
  have hF2 : F2 = F1 := by rcases hm with ⟨_, _, _, e⟩ | ⟨_, _, _, e⟩ <;> exact e.symm
  obtain ⟨g1, g2, g3⟩ := lc_std hK hMo hB hO hRM hpd.2.1 hpd.2.2.2 hG' hc hm2 hF2
  exact ⟨b, rfl, hb, g1, g2, g3⟩
theorem lw_addHare (l : Launch) (g : zG) (ad : Int → Nat) {t d : Int} {M F : zMem} (h : zCR t d M F) (ht : t ≤ 50000000) (hd : d ≤ 9000) (hRM : zRM M) (x0 : Int) (hx0 : zR x0) : zLS l g ad yL_addHare cL_addHare 4 [(0, 9, 12, 19), (0, 9, 15, 13)] 9 1 6 [.ref (ad 0), .int (zI x0), .ref (ad 408)] yX12_addHare cX12_addHare 2 (some .int) 3 [.ref (ad 398), .int (zI x0)] M F (zAi (t + 7000) (d + 9)) := by
  obtain ⟨V, sv, S, many, U, ep, fc, T, n, hK, hMo, hB, hO⟩ := id h
  have hV := hMo.1
  have hG := hB.1.2.1
  have hI := hG.1
  have hpd := pd_AH (c := x0) (V := V) hI.2.1.1
  have hG' : zGd (t + 7000) (zdAH x0 V).2.2 := zGd_up (zG_AH hG hB.1.1) (by omega)
  have hmb := hK.2.2.2.1.2.2.1
  refine ⟨_, ch_addHare l g ad M F x0 _ _ (ct_X11_addHare l g ad M F V t (t + 7000) many U x0 hx0 hK.1 hG hK.2.2.2.1 hG'.1) (fun E M' F' q => ?_), fun k M1 F1 hp hR1 => ?_⟩
  · obtain ⟨f, rfl, f0, hf, _⟩ := q
    rcases ft_3 hpd.1 hf with ⟨_, rfl⟩ | ⟨_, rfl⟩ | ⟨_, rfl⟩
    · omega
    · exact Or.inl (by decide)
    · exact Or.inr ((by decide))
  have hc : ((zdAH x0 V).1 = 0 ∧ k = 0 ∧ ∃ M0, zRS 1 (zdAH x0 V).2.2 M0 F1 ∧ zHi t (zm8 many) (fun k => if k = 0 then V else U (k - 1)) M0 F1 ∧ zFr M F M0 F1 ∧ M1 = zu M0 408 0 ((zdAH x0 V).2.2 1 - 1)) ∨ (0 < (zdAH x0 V).1 ∧ k = (zdAH x0 V).1 ∧ zRS 1 (zdAH x0 V).2.2 M1 F1 ∧ zHi t many U M1 F1 ∧ zFr M F M1 F1) := by
    rcases hp with ⟨rfl, r, M0, hr, ⟨hf, rfl, a1, a2, a3⟩, rfl⟩ | ⟨rfl, f, e9, f0, hf, a1, a2, a3⟩ | ⟨rfl, f, e9, f0, hf, a1, a2, a3⟩
    · refine Or.inl ⟨?_, rfl, M0, a1, a2, a3, rfl⟩
      rcases ft_3 hpd.1 hf with ⟨z, q9⟩ | ⟨z, q9⟩ | ⟨z, q9⟩
      · exact z
      · omega
      · omega
    · refine Or.inr ?_
      rcases ft_3 hpd.1 hf with ⟨z, rfl⟩ | ⟨z, rfl⟩ | ⟨z, rfl⟩
      · omega
      · exact ⟨by omega, z.symm, a1, a2, a3⟩
      · exact absurd e9 (by decide)
    · refine Or.inr ?_
      rcases ft_3 hpd.1 hf with ⟨z, rfl⟩ | ⟨z, rfl⟩ | ⟨z, rfl⟩
      · omega
      · exact absurd e9 (by decide)
      · exact ⟨by omega, z.symm, a1, a2, a3⟩
  have row : ∀ i, 398 ≤ i → i ≠ 408 → M1 i = M i := fun i i0 i1 => by
    rcases hc with ⟨_, _, M0, _, _, a3, rfl⟩ | ⟨_, _, _, _, a3⟩
    · exact (zu_row i1).trans (a3 i (by omega) (by omega)).1
    · exact (a3 i (by omega) (by omega)).1
  have hV1 : M1 399 = V := (row 399 (by omega) (by omega)).trans hV
  have e6 : M1 398 6 = many := (congrFun (row 398 (by omega) (by omega)) 6).trans hMo.2.2.1.1
  refine ⟨_, ct_X12_addHare l g ad M1 F1 x0 hx0 (by rw [hV1]; exact hI.1) (by rw [hV1]; exact hI.2.1) (by rw [e6]; exact hmb), fun v M2 F2 hm => ?_⟩
  obtain ⟨b, rfl, hb, hm⟩ := hm
  rw [hV1] at hm
  have hm2 : (0 < (zdAH x0 V).1 ∧ M2 = zFL M1 (zdAH x0 V).1) ∨ ((zdAH x0 V).1 = 0 ∧ ((zdAH x0 V).2.2 1 - 1) = b ∧ ∃ N, M2 = zpush N ∧ N 399 = (zdAH x0 V).2.2 ∧ N 400 = M1 399 ∧ (∀ i, i ≠ 398 → i ≠ 399 → i ≠ 400 → i ≠ 404 → N i = M1 i) ∧ N 398 8 = 0 ∧ ∀ j, j ≠ 8 → N 398 j = M1 398 j) := by
    rcases hm with ⟨h0, _, rfl, _⟩ | ⟨h0, e1, rfl, _⟩
    · exact Or.inl ⟨h0, rfl⟩
    · exact Or.inr ⟨h0, (hpd.2.2.1 h0).trans e1, nOK3⟩
  have hF2 : F2 = F1 := by rcases hm with ⟨_, _, _, e⟩ | ⟨_, _, _, e⟩ <;> exact e.symm
  obtain ⟨g1, g2, g3⟩ := lc_std hK hMo hB hO hRM hpd.2.1 hpd.2.2.2 hG' hc hm2 hF2
  exact ⟨b, rfl, hb, g1, g2, g3⟩
theorem lw_move (l : Launch) (g : zG) (ad : Int → Nat) {t d : Int} {M F : zMem} (h : zCR t d M F) (ht : t ≤ 50000000) (hd : d ≤ 9000) (hRM : zRM M) (x0 : Int) (hx0 : zR x0) (x1 : Int) (hx1 : zR x1) : zLS l g ad yL_move cL_move 5 [(0, 10, 13, 19), (0, 10, 17, 13)] 9 1 6 [.ref (ad 0), .int (zI x0), .int (zI x1), .ref (ad 408)] yX12_move cX12_move 3 (some .int) 3 [.ref (ad 398), .int (zI x0), .int (zI x1)] M F (zAi (t + 7000) (d + 9)) := by
  obtain ⟨V, sv, S, many, U, ep, fc, T, n, hK, hMo, hB, hO⟩ := id h
  have hV := hMo.1
  have hG := hB.1.2.1
  have hI := hG.1
  have hpd := pd_Mv (x := x0) (c := x1) (V := V)
  have hG' : zGd (t + 7000) (zdMv x0 x1 V).2.2 := zGd_up (zG_Mv hG) (by omega)
  have hmb := hK.2.2.2.1.2.2.1
  refine ⟨_, ch_move l g ad M F x0 x1 _ _ (ct_X11_move l g ad M F V t (t + 7000) many U x0 hx0 x1 hx1 hK.1 hG hK.2.2.2.1 hG'.1) (fun E M' F' q => ?_), fun k M1 F1 hp hR1 => ?_⟩
  · obtain ⟨f, rfl, f0, hf, _⟩ := q
    rcases ft_3 hpd.1 hf with ⟨_, rfl⟩ | ⟨_, rfl⟩ | ⟨_, rfl⟩
    · omega
    · exact Or.inl (by decide)
    · exact Or.inr ((by decide))
  have hc : ((zdMv x0 x1 V).1 = 0 ∧ k = 0 ∧ ∃ M0, zRS 1 (zdMv x0 x1 V).2.2 M0 F1 ∧ zHi t (zm8 many) (fun k => if k = 0 then V else U (k - 1)) M0 F1 ∧ zFr M F M0 F1 ∧ M1 = zu M0 408 0 (if zisH V x0 then V (72 + 4 * x0 + 0) else -1)) ∨ (0 < (zdMv x0 x1 V).1 ∧ k = (zdMv x0 x1 V).1 ∧ zRS 1 (zdMv x0 x1 V).2.2 M1 F1 ∧ zHi t many U M1 F1 ∧ zFr M F M1 F1) := by
    rcases hp with ⟨rfl, r, M0, hr, ⟨hf, rfl, a1, a2, a3⟩, rfl⟩ | ⟨rfl, f, e9, f0, hf, a1, a2, a3⟩ | ⟨rfl, f, e9, f0, hf, a1, a2, a3⟩
    · refine Or.inl ⟨?_, rfl, M0, a1, a2, a3, rfl⟩
      rcases ft_3 hpd.1 hf with ⟨z, q9⟩ | ⟨z, q9⟩ | ⟨z, q9⟩
      · exact z
      · omega
      · omega
    · refine Or.inr ?_
      rcases ft_3 hpd.1 hf with ⟨z, rfl⟩ | ⟨z, rfl⟩ | ⟨z, rfl⟩
      · omega
      · exact ⟨by omega, z.symm, a1, a2, a3⟩
      · exact absurd e9 (by decide)
    · refine Or.inr ?_
      rcases ft_3 hpd.1 hf with ⟨z, rfl⟩ | ⟨z, rfl⟩ | ⟨z, rfl⟩
      · omega
      · exact absurd e9 (by decide)
      · exact ⟨by omega, z.symm, a1, a2, a3⟩
  have row : ∀ i, 398 ≤ i → i ≠ 408 → M1 i = M i := fun i i0 i1 => by
    rcases hc with ⟨_, _, M0, _, _, a3, rfl⟩ | ⟨_, _, _, _, a3⟩
    · exact (zu_row i1).trans (a3 i (by omega) (by omega)).1
    · exact (a3 i (by omega) (by omega)).1
  have hV1 : M1 399 = V := (row 399 (by omega) (by omega)).trans hV
  have e6 : M1 398 6 = many := (congrFun (row 398 (by omega) (by omega)) 6).trans hMo.2.2.1.1
  refine ⟨_, ct_X12_move l g ad M1 F1 x0 hx0 x1 hx1 (by rw [hV1]; exact hI.1) (by rw [hV1]; exact hI.2.1) (by rw [hV1]; exact hI.2.2.1) (by rw [e6]; exact hmb), fun v M2 F2 hm => ?_⟩
  obtain ⟨b, rfl, hb, hm⟩ := hm
  rw [hV1] at hm
  have hm2 : (0 < (zdMv x0 x1 V).1 ∧ M2 = zFL M1 (zdMv x0 x1 V).1) ∨ ((zdMv x0 x1 V).1 = 0 ∧ (if zisH V x0 then V (72 + 4 * x0 + 0) else -1) = b ∧ ∃ N, M2 = zpush N ∧ N 399 = (zdMv x0 x1 V).2.2 ∧ N 400 = M1 399 ∧ (∀ i, i ≠ 398 → i ≠ 399 → i ≠ 400 → i ≠ 404 → N i = M1 i) ∧ N 398 8 = 0 ∧ ∀ j, j ≠ 8 → N 398 j = M1 398 j) := by
    rcases hm with ⟨h0, _, rfl, _⟩ | ⟨h0, e1, rfl, _⟩
    · exact Or.inl ⟨h0, rfl⟩
    · exact Or.inr ⟨h0, (hpd.2.2.1 h0).trans e1, nOK3⟩
  have hF2 : F2 = F1 := by rcases hm with ⟨_, _, _, e⟩ | ⟨_, _, _, e⟩ <;> exact e.symm
  obtain ⟨g1, g2, g3⟩ := lc_std hK hMo hB hO hRM hpd.2.1 hpd.2.2.2 hG' hc hm2 hF2
  exact ⟨b, rfl, hb, g1, g2, g3⟩
theorem lw_setListening (l : Launch) (g : zG) (ad : Int → Nat) {t d : Int} {M F : zMem} (h : zCR t d M F) (ht : t ≤ 50000000) (hd : d ≤ 9000) (hRM : zRM M) (x0 : Int) (hx0 : zR x0) (P : Prop) [Decidable P] : zLS l g ad yL_setListening cL_setListening 5 [(0, 17, 20, 19)] 9 1 6 [.ref (ad 0), .int (zI x0), .int (zI (zb P)), .ref (ad 408)] yX12_setListening cX12_setListening 3 (some .boolean) 3 [.ref (ad 398), .int (zI x0), .int (zI (zb P))] M F (zAb (t + 7000) (d + 9)) := by
  obtain ⟨V, sv, S, many, U, ep, fc, T, n, hK, hMo, hB, hO⟩ := id h
  have hV := hMo.1
  have hG := hB.1.2.1
  have hI := hG.1
  have hpd := pd_Li (x := x0) (P := P) (V := V)
  have hG' : zGd (t + 7000) (zdLi x0 P V).2.2 := zGd_up (zG_Li hG) (by omega)
  have hmb := hK.2.2.2.1.2.2.1
  refine ⟨_, ch_setListening l g ad M F x0 (zb P) _ _ (ct_X11_setListening l g ad M F V t (t + 7000) many U x0 hx0 P hK.1 hG hK.2.2.2.1 hG'.1) (fun E M' F' q => ?_) (fun r M' F' q => by have q9 := q.2.1; by_cases hc : zisH V x0 <;> first | (rw [if_pos hc] at q9; have := (hG.hares x0 hc.1 hc.2).2.1; omega) | (rw [if_neg hc] at q9; omega)), fun k M1 F1 hp hR1 => ?_⟩
  · obtain ⟨f, rfl, f0, hf, _⟩ := q
    rcases ft_2 hpd.1 hf with ⟨_, rfl⟩ | ⟨_, rfl⟩
    · omega
    · exact (by decide)
  have hc : ((zdLi x0 P V).1 = 0 ∧ k = 0 ∧ ∃ M0, zRS 1 (zdLi x0 P V).2.2 M0 F1 ∧ zHi t (zm8 many) (fun k => if k = 0 then V else U (k - 1)) M0 F1 ∧ zFr M F M0 F1 ∧ M1 = zu M0 408 0 (if zisH V x0 then V (72 + 4 * x0 + 1) else 0)) ∨ (0 < (zdLi x0 P V).1 ∧ k = (zdLi x0 P V).1 ∧ zRS 1 (zdLi x0 P V).2.2 M1 F1 ∧ zHi t many U M1 F1 ∧ zFr M F M1 F1) := by
    rcases hp with ⟨rfl, r, M0, hr, ⟨hf, rfl, a1, a2, a3⟩, rfl⟩ | ⟨rfl, f, e9, f0, hf, a1, a2, a3⟩
    · refine Or.inl ⟨?_, rfl, M0, a1, a2, a3, rfl⟩
      rcases ft_2 hpd.1 hf with ⟨z, q9⟩ | ⟨z, q9⟩
      · exact z
      · omega
    · refine Or.inr ?_
      rcases ft_2 hpd.1 hf with ⟨z, rfl⟩ | ⟨z, rfl⟩
      · omega
      · exact ⟨by omega, z.symm, a1, a2, a3⟩
  have row : ∀ i, 398 ≤ i → i ≠ 408 → M1 i = M i := fun i i0 i1 => by
    rcases hc with ⟨_, _, M0, _, _, a3, rfl⟩ | ⟨_, _, _, _, a3⟩
    · exact (zu_row i1).trans (a3 i (by omega) (by omega)).1
    · exact (a3 i (by omega) (by omega)).1
  have hV1 : M1 399 = V := (row 399 (by omega) (by omega)).trans hV
  have e6 : M1 398 6 = many := (congrFun (row 398 (by omega) (by omega)) 6).trans hMo.2.2.1.1
  refine ⟨_, ct_X12_setListening l g ad M1 F1 x0 hx0 P (by rw [hV1]; exact hI.2.1) (by rw [e6]; exact hmb), fun v M2 F2 hm => ?_⟩
  obtain ⟨b, rfl, hb, hm⟩ := hm
  rw [hV1] at hm
  have hm2 : (0 < (zdLi x0 P V).1 ∧ M2 = zFL M1 (zdLi x0 P V).1) ∨ ((zdLi x0 P V).1 = 0 ∧ (if zisH V x0 then V (72 + 4 * x0 + 1) else 0) = b ∧ ∃ N, M2 = zpush N ∧ N 399 = (zdLi x0 P V).2.2 ∧ N 400 = M1 399 ∧ (∀ i, i ≠ 398 → i ≠ 399 → i ≠ 400 → i ≠ 404 → N i = M1 i) ∧ N 398 8 = 0 ∧ ∀ j, j ≠ 8 → N 398 j = M1 398 j) := by
    rcases hm with ⟨h0, _, rfl, _⟩ | ⟨h0, e1, rfl, _⟩
    · exact Or.inl ⟨h0, rfl⟩
    · exact Or.inr ⟨h0, (by have h9 := hpd.2.2.1 h0; rw [← e1, ← h9]; by_cases hc : zisH V x0 <;> first | (rw [if_pos hc]; have h01 := (hG.hares x0 hc.1 hc.2).2.1; rcases h01 with h01 | h01 <;> rw [h01] <;> rfl) | (rw [if_neg hc]; rfl)), nOK3⟩
  have hF2 : F2 = F1 := by rcases hm with ⟨_, _, _, e⟩ | ⟨_, _, _, e⟩ <;> exact e.symm
  obtain ⟨g1, g2, g3⟩ := lc_std hK hMo hB hO hRM hpd.2.1 hpd.2.2.2 hG' hc hm2 hF2
  exact ⟨b, rfl, by rcases hm with ⟨_, e, _⟩ | ⟨_, e, _⟩ <;> rw [← e] <;> first | exact Or.inl rfl | (unfold zb; split <;> omega), g1, g2, g3⟩
theorem lw_say (l : Launch) (g : zG) (ad : Int → Nat) {t d : Int} {M F : zMem} (h : zCR t d M F) (ht : t ≤ 50000000) (hd : d ≤ 9000) (hRM : zRM M) (x0 : Int) (hx0 : zR x0) (x1 : Int) (hx1 : zR x1) (x2 : Int) (hx2 : zR x2) : zLS l g ad yL_say cL_say 6 [(0, 12, 15, 19), (0, 12, 19, 21), (0, 12, 23, 13)] 9 1 6 [.ref (ad 0), .int (zI x0), .int (zI x1), .int (zI x2), .ref (ad 408)] yX12_say cX12_say 4 (some .int) 3 [.ref (ad 398), .int (zI x0), .int (zI x1), .int (zI x2)] M F (zAi (t + 7000) (d + 9)) := by
  obtain ⟨V, sv, S, many, U, ep, fc, T, n, hK, hMo, hB, hO⟩ := id h
  have hV := hMo.1
  have hG := hB.1.2.1
  have hI := hG.1
  have hpd := pd_Say (s := x0) (r := x1) (n := x2) (V := V)
  have hG' : zGd (t + 7000) (zdSay x0 x1 x2 V).2.2 := zGd_up (zG_Say hG) (by omega)
  have hmb := hK.2.2.2.1.2.2.1
  refine ⟨_, ch_say l g ad M F x0 x1 x2 _ _ (ct_X11_say l g ad M F V t (t + 7000) many U x0 hx0 x1 hx1 x2 hx2 hK.1 hG hK.2.2.2.1 (by have := hB.1.2.2; omega) hG'.1) (fun E M' F' q => ?_), fun k M1 F1 hp hR1 => ?_⟩
  · obtain ⟨f, rfl, f0, hf, _⟩ := q
    rcases ft_4 hpd.1 hf with ⟨_, rfl⟩ | ⟨_, rfl⟩ | ⟨_, rfl⟩ | ⟨_, rfl⟩
    · omega
    · exact Or.inl (by decide)
    · exact Or.inr (Or.inl (by decide))
    · exact Or.inr (Or.inr ((by decide)))
  have hc : ((zdSay x0 x1 x2 V).1 = 0 ∧ k = 0 ∧ ∃ M0, zRS 1 (zdSay x0 x1 x2 V).2.2 M0 F1 ∧ zHi t (zm8 many) (fun k => if k = 0 then V else U (k - 1)) M0 F1 ∧ zFr M F M0 F1 ∧ M1 = zu M0 408 0 (V 3)) ∨ (0 < (zdSay x0 x1 x2 V).1 ∧ k = (zdSay x0 x1 x2 V).1 ∧ zRS 1 (zdSay x0 x1 x2 V).2.2 M1 F1 ∧ zHi t many U M1 F1 ∧ zFr M F M1 F1) := by
    rcases hp with ⟨rfl, r, M0, hr, ⟨hf, rfl, a1, a2, a3⟩, rfl⟩ | ⟨rfl, f, e9, f0, hf, a1, a2, a3⟩ | ⟨rfl, f, e9, f0, hf, a1, a2, a3⟩ | ⟨rfl, f, e9, f0, hf, a1, a2, a3⟩
    · refine Or.inl ⟨?_, rfl, M0, a1, a2, a3, rfl⟩
      rcases ft_4 hpd.1 hf with ⟨z, q9⟩ | ⟨z, q9⟩ | ⟨z, q9⟩ | ⟨z, q9⟩
      · exact z
      · omega
      · omega
      · omega
    · refine Or.inr ?_
      rcases ft_4 hpd.1 hf with ⟨z, rfl⟩ | ⟨z, rfl⟩ | ⟨z, rfl⟩ | ⟨z, rfl⟩
      · omega
      · exact ⟨by omega, z.symm, a1, a2, a3⟩
      · exact absurd e9 (by decide)
      · exact absurd e9 (by decide)
    · refine Or.inr ?_
      rcases ft_4 hpd.1 hf with ⟨z, rfl⟩ | ⟨z, rfl⟩ | ⟨z, rfl⟩ | ⟨z, rfl⟩
      · omega
      · exact absurd e9 (by decide)
      · exact ⟨by omega, z.symm, a1, a2, a3⟩
      · exact absurd e9 (by decide)
    · refine Or.inr ?_
      rcases ft_4 hpd.1 hf with ⟨z, rfl⟩ | ⟨z, rfl⟩ | ⟨z, rfl⟩ | ⟨z, rfl⟩
      · omega
      · exact absurd e9 (by decide)
      · exact absurd e9 (by decide)
      · exact ⟨by omega, z.symm, a1, a2, a3⟩
  have row : ∀ i, 398 ≤ i → i ≠ 408 → M1 i = M i := fun i i0 i1 => by
    rcases hc with ⟨_, _, M0, _, _, a3, rfl⟩ | ⟨_, _, _, _, a3⟩
    · exact (zu_row i1).trans (a3 i (by omega) (by omega)).1
    · exact (a3 i (by omega) (by omega)).1
  have hV1 : M1 399 = V := (row 399 (by omega) (by omega)).trans hV
  have e6 : M1 398 6 = many := (congrFun (row 398 (by omega) (by omega)) 6).trans hMo.2.2.1.1
  refine ⟨_, ct_X12_say l g ad M1 F1 x0 hx0 x1 hx1 x2 hx2 (by rw [hV1]; exact hI.2.1) (by rw [hV1]; exact hI.2.2.1) (by rw [hV1]; have := hI.2.2.2.1 3 (by decide) (by decide); omega) (by rw [e6]; exact hmb), fun v M2 F2 hm => ?_⟩
  obtain ⟨b, rfl, hb, hm⟩ := hm
  rw [hV1] at hm
  have hm2 : (0 < (zdSay x0 x1 x2 V).1 ∧ M2 = zFL M1 (zdSay x0 x1 x2 V).1) ∨ ((zdSay x0 x1 x2 V).1 = 0 ∧ (V 3) = b ∧ ∃ N, M2 = zpush N ∧ N 399 = (zdSay x0 x1 x2 V).2.2 ∧ N 400 = M1 399 ∧ (∀ i, i ≠ 398 → i ≠ 399 → i ≠ 400 → i ≠ 404 → N i = M1 i) ∧ N 398 8 = 0 ∧ ∀ j, j ≠ 8 → N 398 j = M1 398 j) := by
    rcases hm with ⟨h0, _, rfl, _⟩ | ⟨h0, e1, rfl, _⟩
    · exact Or.inl ⟨h0, rfl⟩
    · exact Or.inr ⟨h0, (hpd.2.2.1 h0).trans e1, nOK3⟩
  have hF2 : F2 = F1 := by rcases hm with ⟨_, _, _, e⟩ | ⟨_, _, _, e⟩ <;> exact e.symm
  obtain ⟨g1, g2, g3⟩ := lc_std hK hMo hB hO hRM hpd.2.1 hpd.2.2.2 hG' hc hm2 hF2
  exact ⟨b, rfl, hb, g1, g2, g3⟩
theorem lw_forget (l : Launch) (g : zG) (ad : Int → Nat) {t d : Int} {M F : zMem} (h : zCR t d M F) (ht : t ≤ 50000000) (hd : d ≤ 9000) (hRM : zRM M) (x0 : Int) (hx0 : zR x0) : zLS l g ad yL_forget cL_forget 4 [(0, 9, 12, 27), (0, 9, 15, 13)] 9 1 6 [.ref (ad 0), .int (zI x0), .ref (ad 408)] yX12_forget cX12_forget 2 (some .int) 3 [.ref (ad 398), .int (zI x0)] M F (zAi (t + 7000) (d + 9)) := by
  obtain ⟨V, sv, S, many, U, ep, fc, T, n, hK, hMo, hB, hO⟩ := id h
  have hV := hMo.1
  have hG := hB.1.2.1
  have hI := hG.1
  have hpd := pd_Fo (x := x0) (V := V)
  have hG' : zGd (t + 7000) (zdFo x0 V).2.2 := zGd_up (zG_Fo hG) (by omega)
  have hmb := hK.2.2.2.1.2.2.1
  refine ⟨_, ch_forget l g ad M F x0 _ _ (ct_X11_forget l g ad M F V t (t + 7000) many U x0 hx0 hK.1 hG hK.2.2.2.1 hG'.1) (fun E M' F' q => ?_), fun k M1 F1 hp hR1 => ?_⟩
  · obtain ⟨f, rfl, f0, hf, _⟩ := q
    rcases ft_3 hpd.1 hf with ⟨_, rfl⟩ | ⟨_, rfl⟩ | ⟨_, rfl⟩
    · omega
    · exact Or.inl (by decide)
    · exact Or.inr ((by decide))
  have hc : ((zdFo x0 V).1 = 0 ∧ k = 0 ∧ ∃ M0, zRS 1 (zdFo x0 V).2.2 M0 F1 ∧ zHi t (zm8 many) (fun k => if k = 0 then V else U (k - 1)) M0 F1 ∧ zFr M F M0 F1 ∧ M1 = zu M0 408 0 ((zdFo x0 V).2.2 2)) ∨ (0 < (zdFo x0 V).1 ∧ k = (zdFo x0 V).1 ∧ zRS 1 (zdFo x0 V).2.2 M1 F1 ∧ zHi t many U M1 F1 ∧ zFr M F M1 F1) := by
    rcases hp with ⟨rfl, r, M0, hr, ⟨hf, rfl, a1, a2, a3⟩, rfl⟩ | ⟨rfl, f, e9, f0, hf, a1, a2, a3⟩ | ⟨rfl, f, e9, f0, hf, a1, a2, a3⟩
    · refine Or.inl ⟨?_, rfl, M0, a1, a2, a3, rfl⟩
      rcases ft_3 hpd.1 hf with ⟨z, q9⟩ | ⟨z, q9⟩ | ⟨z, q9⟩
      · exact z
      · omega
      · omega
    · refine Or.inr ?_
      rcases ft_3 hpd.1 hf with ⟨z, rfl⟩ | ⟨z, rfl⟩ | ⟨z, rfl⟩
      · omega
      · exact ⟨by omega, z.symm, a1, a2, a3⟩
      · exact absurd e9 (by decide)
    · refine Or.inr ?_
      rcases ft_3 hpd.1 hf with ⟨z, rfl⟩ | ⟨z, rfl⟩ | ⟨z, rfl⟩
      · omega
      · exact absurd e9 (by decide)
      · exact ⟨by omega, z.symm, a1, a2, a3⟩
  have row : ∀ i, 398 ≤ i → i ≠ 408 → M1 i = M i := fun i i0 i1 => by
    rcases hc with ⟨_, _, M0, _, _, a3, rfl⟩ | ⟨_, _, _, _, a3⟩
    · exact (zu_row i1).trans (a3 i (by omega) (by omega)).1
    · exact (a3 i (by omega) (by omega)).1
  have hV1 : M1 399 = V := (row 399 (by omega) (by omega)).trans hV
  have e6 : M1 398 6 = many := (congrFun (row 398 (by omega) (by omega)) 6).trans hMo.2.2.1.1
  refine ⟨_, ct_X12_forget l g ad M1 F1 x0 hx0 (by rw [hV1]; exact hI.2.2.1) (by rw [e6]; exact hmb), fun v M2 F2 hm => ?_⟩
  obtain ⟨b, rfl, hb, hm⟩ := hm
  rw [hV1] at hm
  have hm2 : (0 < (zdFo x0 V).1 ∧ M2 = zFL M1 (zdFo x0 V).1) ∨ ((zdFo x0 V).1 = 0 ∧ ((zdFo x0 V).2.2 2) = b ∧ ∃ N, M2 = zpush N ∧ N 399 = (zdFo x0 V).2.2 ∧ N 400 = M1 399 ∧ (∀ i, i ≠ 398 → i ≠ 399 → i ≠ 400 → i ≠ 404 → N i = M1 i) ∧ N 398 8 = 0 ∧ ∀ j, j ≠ 8 → N 398 j = M1 398 j) := by
    rcases hm with ⟨h0, _, rfl, _⟩ | ⟨h0, e1, rfl, _⟩
    · exact Or.inl ⟨h0, rfl⟩
    · exact Or.inr ⟨h0, (hpd.2.2.1 h0).trans e1, nOK3⟩
  have hF2 : F2 = F1 := by rcases hm with ⟨_, _, _, e⟩ | ⟨_, _, _, e⟩ <;> exact e.symm
  obtain ⟨g1, g2, g3⟩ := lc_std hK hMo hB hO hRM hpd.2.1 hpd.2.2.2 hG' hc hm2 hF2
  exact ⟨b, rfl, hb, g1, g2, g3⟩
theorem lw_passTicks (l : Launch) (g : zG) (ad : Int → Nat) {t d : Int} {M F : zMem} (h : zCR t d M F) (ht : t ≤ 50000000) (hd : d ≤ 9000) (hRM : zRM M) (x0 : Int) (hx0 : zR x0) : zLS l g ad yL_passTicks cL_passTicks 4 [(0, 9, 12, 21)] 9 1 6 [.ref (ad 0), .int (zI x0), .ref (ad 408)] yX12_passTicks cX12_passTicks 2 (some .int) 7 [.ref (ad 398), .int (zI x0)] M F (zAi (t + 7000) (d + 9)) := by
  obtain ⟨V, sv, S, many, U, ep, fc, T, n, hK, hMo, hB, hO⟩ := id h
  have hV := hMo.1
  have hG := hB.1.2.1
  have hI := hG.1
  have hpd := pd_PT (x := x0) hG
  have hG' : zGd (t + 7000) (zdPT x0 V).2.2 := zG_PT' hG hB.1.1
  have hmb := hK.2.2.2.1.2.2.1
  refine ⟨_, ch_passTicks l g ad M F x0 _ _ (ct_X11_passTicks l g ad M F V t (t + 7000) many U x0 hx0 hK.1 hG hK.2.2.2.1 (by omega) (by omega) hG'.1) (fun E M' F' q => ?_), fun k M1 F1 hp hR1 => ?_⟩
  · obtain ⟨f, rfl, f0, hf, _⟩ := q
    rcases ft_2 hpd.1 hf with ⟨_, rfl⟩ | ⟨_, rfl⟩
    · omega
    · exact (by decide)
  have hc : ((zdPT x0 V).1 = 0 ∧ k = 0 ∧ ∃ M0, zRS 1 (zdPT x0 V).2.2 M0 F1 ∧ zHi t (zm8 many) (fun k => if k = 0 then V else U (k - 1)) M0 F1 ∧ zFr M F M0 F1 ∧ M1 = zu M0 408 0 ((zdPT x0 V).2.2 6 - V 6)) ∨ (0 < (zdPT x0 V).1 ∧ k = (zdPT x0 V).1 ∧ zRS 1 (zdPT x0 V).2.2 M1 F1 ∧ zHi t many U M1 F1 ∧ zFr M F M1 F1) := by
    rcases hp with ⟨rfl, r, M0, hr, ⟨hf, rfl, a1, a2, a3⟩, rfl⟩ | ⟨rfl, f, e9, f0, hf, a1, a2, a3⟩
    · refine Or.inl ⟨?_, rfl, M0, a1, a2, a3, rfl⟩
      rcases ft_2 hpd.1 hf with ⟨z, q9⟩ | ⟨z, q9⟩
      · exact z
      · omega
    · refine Or.inr ?_
      rcases ft_2 hpd.1 hf with ⟨z, rfl⟩ | ⟨z, rfl⟩
      · omega
      · exact ⟨by omega, z.symm, a1, a2, a3⟩
  have row : ∀ i, 398 ≤ i → i ≠ 408 → M1 i = M i := fun i i0 i1 => by
    rcases hc with ⟨_, _, M0, _, _, a3, rfl⟩ | ⟨_, _, _, _, a3⟩
    · exact (zu_row i1).trans (a3 i (by omega) (by omega)).1
    · exact (a3 i (by omega) (by omega)).1
  have hV1 : M1 399 = V := (row 399 (by omega) (by omega)).trans hV
  have e6 : M1 398 6 = many := (congrFun (row 398 (by omega) (by omega)) 6).trans hMo.2.2.1.1
  refine ⟨_, ct_X12_passTicks l g ad M1 F1 t x0 hx0 (by rw [hV1]; exact hI) (by rw [hV1]; exact hG.2.1) (by omega) (by rw [e6]; exact hmb), fun v M2 F2 hm => ?_⟩
  obtain ⟨b, rfl, hb, hm⟩ := hm
  rw [hV1] at hm
  have hm2 : (0 < (zdPT x0 V).1 ∧ M2 = zFL M1 (zdPT x0 V).1) ∨ ((zdPT x0 V).1 = 0 ∧ ((zdPT x0 V).2.2 6 - V 6) = b ∧ ∃ N, M2 = zpush N ∧ N 399 = (zdPT x0 V).2.2 ∧ N 400 = M1 399 ∧ (∀ i, i ≠ 398 → i ≠ 399 → i ≠ 400 → i ≠ 404 → N i = M1 i) ∧ N 398 8 = 0 ∧ ∀ j, j ≠ 8 → N 398 j = M1 398 j) := by
    rcases hm with ⟨h0, _, rfl, _⟩ | ⟨w, h0, e1, rfl, _⟩
    · exact Or.inl ⟨h0, rfl⟩
    · exact Or.inr ⟨h0, (hpd.2.2.1 h0).trans e1, by rw [hV1]; exact nOK4⟩
  have hF2 : F2 = F1 := by rcases hm with ⟨_, _, _, e⟩ | ⟨_, _, _, _, e⟩ <;> exact e.symm
  obtain ⟨g1, g2, g3⟩ := lc_std hK hMo hB hO hRM hpd.2.1 hpd.2.2.2 hG' hc hm2 hF2
  exact ⟨b, rfl, hb, g1, g2, g3⟩
