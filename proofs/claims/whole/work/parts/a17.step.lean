/-! plain questions; save, feed, undo -/
theorem lp_chamberCount (l : Launch) (g : zG) (ad : Int → Nat) {t d : Int} {M F : zMem} (h : zCR t d M F) (ht : t ≤ 50000000) (hd : d ≤ 9000) (hRM : zRM M) : zLP l g ad yX11_chamberCount cX11_chamberCount 1 (some .int) 1 [.ref (ad 0)] yX12_chamberCount cX12_chamberCount 1 (some .int) 0 [.ref (ad 398)] M F (zCR t d) := by
  obtain ⟨V, sv, S, many, U, ep, fc, T, n, hK, hMo, hB, hO⟩ := id h
  have hV := hMo.1
  have hG := hB.1.2.1
  have hI := hG.1
  refine ⟨_, ct_X11_chamberCount l g ad M F V t hK.1 hI, fun r M1 F1 hp hR1 => ?_⟩
  obtain ⟨rfl, rfl, rfl⟩ := hp
  refine ⟨_, ct_X12_chamberCount l g ad M F, fun b M2 F2 hm => ?_⟩
  obtain ⟨rfl, rfl, rfl⟩ := hm
  exact ⟨by rw [hV], lq_rel h (fun _ _ => rfl) (fun _ _ _ _ => rfl) (fun i a1 _ _ _ => zu_row a1) (fun j j0 => zu_ne (by omega)) rfl⟩
theorem lp_hareCount (l : Launch) (g : zG) (ad : Int → Nat) {t d : Int} {M F : zMem} (h : zCR t d M F) (ht : t ≤ 50000000) (hd : d ≤ 9000) (hRM : zRM M) : zLP l g ad yX11_hareCount cX11_hareCount 1 (some .int) 1 [.ref (ad 0)] yX12_hareCount cX12_hareCount 1 (some .int) 0 [.ref (ad 398)] M F (zCR t d) := by
  obtain ⟨V, sv, S, many, U, ep, fc, T, n, hK, hMo, hB, hO⟩ := id h
  have hV := hMo.1
  have hG := hB.1.2.1
  have hI := hG.1
  refine ⟨_, ct_X11_hareCount l g ad M F V t hK.1 hI, fun r M1 F1 hp hR1 => ?_⟩
  obtain ⟨rfl, rfl, rfl⟩ := hp
  refine ⟨_, ct_X12_hareCount l g ad M F, fun b M2 F2 hm => ?_⟩
  obtain ⟨rfl, rfl, rfl⟩ := hm
  exact ⟨by rw [hV], lq_rel h (fun _ _ => rfl) (fun _ _ _ _ => rfl) (fun i a1 _ _ _ => zu_row a1) (fun j j0 => zu_ne (by omega)) rfl⟩
theorem lp_messageCount (l : Launch) (g : zG) (ad : Int → Nat) {t d : Int} {M F : zMem} (h : zCR t d M F) (ht : t ≤ 50000000) (hd : d ≤ 9000) (hRM : zRM M) : zLP l g ad yX11_messageCount cX11_messageCount 1 (some .int) 1 [.ref (ad 0)] yX12_messageCount cX12_messageCount 1 (some .int) 0 [.ref (ad 398)] M F (zCR t d) := by
  obtain ⟨V, sv, S, many, U, ep, fc, T, n, hK, hMo, hB, hO⟩ := id h
  have hV := hMo.1
  have hG := hB.1.2.1
  have hI := hG.1
  refine ⟨_, ct_X11_messageCount l g ad M F V t hK.1 hI, fun r M1 F1 hp hR1 => ?_⟩
  obtain ⟨rfl, rfl, rfl⟩ := hp
  refine ⟨_, ct_X12_messageCount l g ad M F, fun b M2 F2 hm => ?_⟩
  obtain ⟨rfl, rfl, rfl⟩ := hm
  exact ⟨by rw [hV], lq_rel h (fun _ _ => rfl) (fun _ _ _ _ => rfl) (fun i a1 _ _ _ => zu_row a1) (fun j j0 => zu_ne (by omega)) rfl⟩
theorem lp_ticks (l : Launch) (g : zG) (ad : Int → Nat) {t d : Int} {M F : zMem} (h : zCR t d M F) (ht : t ≤ 50000000) (hd : d ≤ 9000) (hRM : zRM M) : zLP l g ad yX11_ticks cX11_ticks 1 (some .int) 1 [.ref (ad 0)] yX12_ticks cX12_ticks 1 (some .int) 0 [.ref (ad 398)] M F (zCR t d) := by
  obtain ⟨V, sv, S, many, U, ep, fc, T, n, hK, hMo, hB, hO⟩ := id h
  have hV := hMo.1
  have hG := hB.1.2.1
  have hI := hG.1
  refine ⟨_, ct_X11_ticks l g ad M F V t hK.1 hI, fun r M1 F1 hp hR1 => ?_⟩
  obtain ⟨rfl, rfl, rfl⟩ := hp
  refine ⟨_, ct_X12_ticks l g ad M F, fun b M2 F2 hm => ?_⟩
  obtain ⟨rfl, rfl, rfl⟩ := hm
  exact ⟨by rw [hV], lq_rel h (fun _ _ => rfl) (fun _ _ _ _ => rfl) (fun i a1 _ _ _ => zu_row a1) (fun j j0 => zu_ne (by omega)) rfl⟩
theorem lp_thumpsDrummed (l : Launch) (g : zG) (ad : Int → Nat) {t d : Int} {M F : zMem} (h : zCR t d M F) (ht : t ≤ 50000000) (hd : d ≤ 9000) (hRM : zRM M) : zLP l g ad yX11_thumpsDrummed cX11_thumpsDrummed 1 (some .int) 1 [.ref (ad 0)] yX12_thumpsDrummed cX12_thumpsDrummed 1 (some .int) 0 [.ref (ad 398)] M F (zCR t d) := by
  obtain ⟨V, sv, S, many, U, ep, fc, T, n, hK, hMo, hB, hO⟩ := id h
  have hV := hMo.1
  have hG := hB.1.2.1
  have hI := hG.1
  refine ⟨_, ct_X11_thumpsDrummed l g ad M F V t hK.1 hI, fun r M1 F1 hp hR1 => ?_⟩
  obtain ⟨rfl, rfl, rfl⟩ := hp
  refine ⟨_, ct_X12_thumpsDrummed l g ad M F, fun b M2 F2 hm => ?_⟩
  obtain ⟨rfl, rfl, rfl⟩ := hm
  exact ⟨by rw [hV], lq_rel h (fun _ _ => rfl) (fun _ _ _ _ => rfl) (fun i a1 _ _ _ => zu_row a1) (fun j j0 => zu_ne (by omega)) rfl⟩
theorem lp_deliveries (l : Launch) (g : zG) (ad : Int → Nat) {t d : Int} {M F : zMem} (h : zCR t d M F) (ht : t ≤ 50000000) (hd : d ≤ 9000) (hRM : zRM M) : zLP l g ad yX11_deliveries cX11_deliveries 1 (some .int) 1 [.ref (ad 0)] yX12_deliveries cX12_deliveries 1 (some .int) 0 [.ref (ad 398)] M F (zCR t d) := by
  obtain ⟨V, sv, S, many, U, ep, fc, T, n, hK, hMo, hB, hO⟩ := id h
  have hV := hMo.1
  have hG := hB.1.2.1
  have hI := hG.1
  refine ⟨_, ct_X11_deliveries l g ad M F V t hK.1 hI, fun r M1 F1 hp hR1 => ?_⟩
  obtain ⟨rfl, rfl, rfl⟩ := hp
  refine ⟨_, ct_X12_deliveries l g ad M F, fun b M2 F2 hm => ?_⟩
  obtain ⟨rfl, rfl, rfl⟩ := hm
  exact ⟨by rw [hV], lq_rel h (fun _ _ => rfl) (fun _ _ _ _ => rfl) (fun i a1 _ _ _ => zu_row a1) (fun j j0 => zu_ne (by omega)) rfl⟩
theorem lp_losses (l : Launch) (g : zG) (ad : Int → Nat) {t d : Int} {M F : zMem} (h : zCR t d M F) (ht : t ≤ 50000000) (hd : d ≤ 9000) (hRM : zRM M) : zLP l g ad yX11_losses cX11_losses 1 (some .int) 1 [.ref (ad 0)] yX12_losses cX12_losses 1 (some .int) 0 [.ref (ad 398)] M F (zCR t d) := by
  obtain ⟨V, sv, S, many, U, ep, fc, T, n, hK, hMo, hB, hO⟩ := id h
  have hV := hMo.1
  have hG := hB.1.2.1
  have hI := hG.1
  refine ⟨_, ct_X11_losses l g ad M F V t hK.1 hI, fun r M1 F1 hp hR1 => ?_⟩
  obtain ⟨rfl, rfl, rfl⟩ := hp
  refine ⟨_, ct_X12_losses l g ad M F, fun b M2 F2 hm => ?_⟩
  obtain ⟨rfl, rfl, rfl⟩ := hm
  exact ⟨by rw [hV], lq_rel h (fun _ _ => rfl) (fun _ _ _ _ => rfl) (fun i a1 _ _ _ => zu_row a1) (fun j j0 => zu_ne (by omega)) rfl⟩
theorem lp_tunnelCount (l : Launch) (g : zG) (ad : Int → Nat) {t d : Int} {M F : zMem} (h : zCR t d M F) (ht : t ≤ 50000000) (hd : d ≤ 9000) (hRM : zRM M) : zLP l g ad yX11_tunnelCount cX11_tunnelCount 1 (some .int) 1 [.ref (ad 0)] yX12_tunnelCount cX12_tunnelCount 1 (some .int) 2 [.ref (ad 398)] M F (zCR t d) := by
  obtain ⟨V, sv, S, many, U, ep, fc, T, n, hK, hMo, hB, hO⟩ := id h
  have hV := hMo.1
  have hG := hB.1.2.1
  have hI := hG.1
  refine ⟨_, ct_X11_tunnelCount l g ad M F V t hK.1 hI, fun r M1 F1 hp hR1 => ?_⟩
  obtain ⟨rfl, rfl, rfl⟩ := hp
  refine ⟨_, ct_X12_tunnelCount l g ad M F, fun b M2 F2 hm => ?_⟩
  obtain ⟨rfl, rfl, rfl⟩ := hm
  exact ⟨by rw [hV], lq_rel h (fun _ _ => rfl) (fun _ _ _ _ => rfl) (fun i a1 _ _ _ => zu_row a1) (fun j j0 => zu_ne (by omega)) rfl⟩
theorem lp_undoCount (l : Launch) (g : zG) (ad : Int → Nat) {t d : Int} {M F : zMem} (h : zCR t d M F) (ht : t ≤ 50000000) (hd : d ≤ 9000) (hRM : zRM M) : zLP l g ad yX11_undoCount cX11_undoCount 1 (some .int) 0 [.ref (ad 0)] yX12_undoCount cX12_undoCount 1 (some .int) 0 [.ref (ad 398)] M F (zCR t d) := by
  obtain ⟨V, sv, S, many, U, ep, fc, T, n, hK, hMo, hB, hO⟩ := id h
  have hV := hMo.1
  have hG := hB.1.2.1
  have hI := hG.1
  refine ⟨_, ct_X11_undoCount l g ad M F , fun r M1 F1 hp hR1 => ?_⟩
  obtain ⟨rfl, rfl, rfl⟩ := hp
  refine ⟨_, ct_X12_undoCount l g ad M F, fun b M2 F2 hm => ?_⟩
  obtain ⟨rfl, rfl, rfl⟩ := hm
  exact ⟨hMo.2.2.1.1.trans hK.2.2.2.1.1.symm, lq_rel h (fun _ _ => rfl) (fun _ _ _ _ => rfl) (fun i a1 _ _ _ => zu_row a1) (fun j j0 => zu_ne (by omega)) rfl⟩
theorem lp_isConsistent (l : Launch) (g : zG) (ad : Int → Nat) {t d : Int} {M F : zMem} (h : zCR t d M F) (ht : t ≤ 50000000) (hd : d ≤ 9000) (hRM : zRM M) : zLP l g ad yX11_isConsistent cX11_isConsistent 1 (some .boolean) 5 [.ref (ad 0)] yX12_isConsistent cX12_isConsistent 1 (some .boolean) 0 [.ref (ad 398)] M F (zCR t d) := by
  obtain ⟨V, sv, S, many, U, ep, fc, T, n, hK, hMo, hB, hO⟩ := id h
  have hV := hMo.1
  have hG := hB.1.2.1
  have hI := hG.1
  refine ⟨_, ct_X11_isConsistent l g ad M F V t hK.1 hI hG.one hG.tn, fun r M1 F1 hp hR1 => ?_⟩
  obtain ⟨w, rfl, rfl, rfl⟩ := hp
  refine ⟨_, ct_X12_isConsistent l g ad _ F, fun b M2 F2 hm => ?_⟩
  obtain ⟨rfl, rfl, rfl⟩ := hm
  exact ⟨rfl, lq_rel h (fun _ _ => rfl) (fun i _ a2 _ => zrow_ne (by omega)) (fun i a1 _ _ _ => zu_row a1) (fun j j0 => zu_ne (by omega)) rfl⟩
theorem lp_save (l : Launch) (g : zG) (ad : Int → Nat) {t d : Int} {M F : zMem} (h : zCR t d M F) (ht : t ≤ 50000000) (hd : d ≤ 9000) (hRM : zRM M) : zLP l g ad yX11_save cX11_save 1 (some .int) 4 [.ref (ad 0)] yX12_save cX12_save 1 (some .int) 1 [.ref (ad 398)] M F (zCR t d) := by
  obtain ⟨V, sv, S, many, U, ep, fc, T, n, hK, hMo, hB, hO⟩ := id h
  have hV := hMo.1
  have hG := hB.1.2.1
  have hI := hG.1
  refine ⟨_, ct_X11_save l g ad M F V t hK.1 hI hK.2.1.2, fun r M1 F1 hp hR1 => ?_⟩
  obtain ⟨rfl, a1, a2, ⟨a3, a4, a5⟩, a6⟩ := hp
  have row : ∀ i, i ≠ 0 → ¬(63 ≤ i ∧ i < 94) → M1 i = M i ∧ F1 i = F i := fun i i0 i1 => a6 i i1 i0
  have hV1 : M1 399 = V := (row 399 (by omega) (by omega)).1.trans hV
  refine ⟨_, ct_X12_save l g ad M1 F1, fun b M2 F2 hm => ?_⟩
  obtain ⟨rfl, rfl, rfl⟩ := hm
  rw [hV1]
  refine ⟨rfl, V, 1, V, many, U, ep, fc, T, n, ?_, ?_, ⟨hB.1, ⟨Or.inr rfl, fun _ => ⟨hG, hB.1.2.2⟩⟩, hB.2.2⟩, ?_⟩
  · refine zCK_in (M := M1) (F := F1) ⟨a1, ⟨zRp_in hK.2.1.1 (row (32 + 6) (by omega) (by omega)).2, a2.2.2.2.2.1⟩, ⟨a3, fun _ => a2⟩, zHi_in hK.2.2.2.1 (fun i i0 i1 => row i (by omega) (by omega)), ⟨a4.trans hK.2.2.2.2.1.1, a5.trans hK.2.2.2.2.1.2⟩, ?_⟩ hG (fun _ => hG) (fun i i0 i1 _ _ => ⟨?_, rfl⟩) (zRp_in hK.2.1.1 (row (32 + 6) (by omega) (by omega)).2)
    · obtain ⟨b1, b2, b3⟩ := hK.2.2.2.2.2
      exact ⟨(row 376 (by omega) (by omega)).1.trans b1, (congrFun (row 375 (by omega) (by omega)).1 1).trans b2, b3⟩
    · rw [zu_row (by omega), zrow_ne (by omega), zu_row (by omega)]
  · obtain ⟨m1, ⟨m2, m3⟩, ⟨m4, m5⟩, ⟨⟨m6, g6⟩, m7, g7⟩, m8, m9⟩ := hMo
    have e8 : ∀ j, j ≠ 4 → j ≠ 8 → zu (zrow (zu M1 398 8 0) 402 V) 398 4 1 398 j = M 398 j := fun j j0 j1 => by
      rw [zu_ne (by omega), zrow_ne (by omega), zu_ne (by omega), (row 398 (by omega) (by omega)).1]
    have er : ∀ i, i ≠ 398 → i ≠ 402 → 399 ≤ i → zu (zrow (zu M1 398 8 0) 402 V) 398 4 1 i = M i := fun i i0 i1 i2 => by
      rw [zu_row i0, zrow_ne i1, zu_row i0, (row i (by omega) (by omega)).1]
    refine ⟨(er 399 (by omega) (by omega) (by omega)).trans m1, ⟨zu_same _ _ _ _, fun _ => ?_⟩, ⟨(e8 6 (by omega) (by omega)).trans m4, fun k j k0 k1 j0 j1 => ?_⟩, ⟨⟨(e8 15 (by omega) (by omega)).trans m6, g6⟩, (e8 16 (by omega) (by omega)).trans m7, g7⟩, (er 406 (by omega) (by omega) (by omega)).trans m8, (e8 12 (by omega) (by omega)).trans m9⟩
    · rw [zu_row (by omega)]
      exact if_pos rfl
    · rw [er 403 (by omega) (by omega) (by omega)]
      exact m5 k j k0 k1 j0 j1
  · refine zCO_in hO ?_ ?_ ?_ ?_
    · rw [zu_row (by omega), zrow_ne (by omega), zu_row (by omega), (row 396 (by omega) (by omega)).1]
    · rw [zu_row (by omega), zrow_ne (by omega), zu_row (by omega), (row 397 (by omega) (by omega)).1]
    · rw [zu_ne (by omega), zrow_ne (by omega), zu_ne (by omega), (row 398 (by omega) (by omega)).1]
    · rw [zu_row (by omega), zrow_ne (by omega), zu_row (by omega), (row 405 (by omega) (by omega)).1]
theorem lw_feed (l : Launch) (g : zG) (ad : Int → Nat) {t d : Int} {M F : zMem} (h : zCR t d M F) (ht : t ≤ 50000000) (hd : d ≤ 9000) (hRM : zRM M) (x0 : Int) (hx0 : zR x0) (hx : 0 ≤ x0 ∧ x0 < 65536) : zLS l g ad yL_feed cL_feed 4 [(0, 9, 12, 13)] 9 1 6 [.ref (ad 0), .int (zI x0), .ref (ad 408)] yX12_feed cX12_feed 2 (some .int) 0 [.ref (ad 398), .int (zI x0)] M F (zAi t d) := by
  obtain ⟨V, sv, S, many, U, ep, fc, T, n, hK, hMo, hB, hO⟩ := id h
  have hV := hMo.1
  have hG := hB.1.2.1
  have hI := hG.1
  obtain ⟨c1, c2, c3⟩ := hK.2.2.2.2.2
  have m8 := hMo.2.2.2.2.1
  have m9 := hMo.2.2.2.2.2
  refine ⟨_, ch_feed l g ad M F x0 _ _ (ct_X11_feed l g ad M F x0 hx0 (by rw [c2]; exact c3) hx) (fun E M' F' q => q.1), fun k M1 F1 hp hR1 => ?_⟩
  have hs : F1 = F ∧ (∀ i, i ≠ 408 → i ≠ 375 → i ≠ 376 → M1 i = M i) ∧ ((k = 0 ∧ n < 60 ∧ M1 408 0 = n + 1 ∧ (∀ j, j ≠ 1 → M1 375 j = M 375 j) ∧ M1 375 1 = n + 1 ∧ M1 376 = fun b => if b = n then x0 else T b) ∨ (k = 1 ∧ n = 60 ∧ M1 = M)) := by
    rcases hp with ⟨rfl, r, M0, hr, ⟨hc, rfl, rfl, rfl⟩, rfl⟩ | ⟨rfl, e9, hc, rfl, rfl⟩
    · rw [c2] at hc ⊢
      refine ⟨rfl, fun i a1 a2 a3 => by rw [zu_row a1, zu_row a2, zu_row a3], Or.inl ⟨rfl, hc, zu_same _ _ _ _, fun j j0 => by rw [zu_ne (by omega), zu_ne (by omega), zu_ne (by omega)], by rw [zu_ne (by omega), zu_same], ?_⟩⟩
      rw [zu_row (by omega), zu_row (by omega), zu_self, c1]
    · rw [c2] at hc
      exact ⟨rfl, fun _ _ _ _ => rfl, Or.inr ⟨rfl, by omega, rfl⟩⟩
  obtain ⟨rfl, row, hk⟩ := hs
  have e12 : M1 398 12 = n := (congrFun (row 398 (by omega) (by omega) (by omega)) 12).trans m9
  have e406 : M1 406 = T := (row 406 (by omega) (by omega) (by omega)).trans m8
  refine ⟨_, ct_X12_feed l g ad M1 F1 x0 hx0 (by rw [e12]; exact c3) hx, fun v M2 F2 hm => ?_⟩
  obtain ⟨b, rfl, hb, hm⟩ := hm
  rw [e12] at hm
  rcases hm with ⟨hn, e1, rfl, rfl⟩ | ⟨hn, e1, rfl, rfl⟩
  · rcases hk with ⟨_, z, _⟩ | ⟨rfl, _, rfl⟩
    · omega
    · exact ⟨b, rfl, hb, zu_same _ _ _ _, fun z => absurd z (by decide), lq_rel h (fun _ _ => rfl) (fun _ _ _ _ => rfl) (fun i a1 _ _ _ => zu_row a1) (fun j j0 => zu_ne (by omega)) rfl⟩
  · rcases hk with ⟨rfl, _, h408, h375, h3751, h376⟩ | ⟨_, z, _⟩
    · have er : ∀ i, i ≠ 398 → i ≠ 406 → zu (zu (zu M1 398 8 0) 406 n x0) 398 12 (n + 1) i = M1 i := fun i i0 i1 => by rw [zu_row i0, zu_row i1, zu_row i0]
      have e8 : ∀ j, j ≠ 8 → j ≠ 12 → zu (zu (zu M1 398 8 0) 406 n x0) 398 12 (n + 1) 398 j = M 398 j := fun j j0 j1 => by
        rw [zu_ne (by omega), zu_ne (by omega), zu_ne (by omega), row 398 (by omega) (by omega) (by omega)]
      have eM : ∀ i, i ≠ 398 → i ≠ 406 → i ≠ 408 → i ≠ 375 → i ≠ 376 → zu (zu (zu M1 398 8 0) 406 n x0) 398 12 (n + 1) i = M i := fun i i0 i1 i2 i3 i4 => (er i i0 i1).trans (row i i2 i3 i4)
      obtain ⟨m1, ⟨m2, m3⟩, ⟨m4, m5⟩, ⟨⟨m6, g6⟩, m7, g7⟩, _, _⟩ := hMo
      obtain ⟨k1, k2, ⟨k3, k4⟩, k5, k6, _⟩ := hK
      have hcls : ∀ i, 0 ≤ i → i < 375 → zu (zu (zu M1 398 8 0) 406 n x0) 398 12 (n + 1) i = M i ∧ F1 i = F1 i := fun i i0 i1 => ⟨eM i (by omega) (by omega) (by omega) (by omega) (by omega), rfl⟩
      refine ⟨b, rfl, hb, ?_, fun _ => ?_, V, sv, S, many, U, ep, fc, (fun q => if q = n then x0 else T q), n + 1, ⟨?_, k2, ⟨?_, fun z => ?_⟩, zHi_in k5 (fun i i0 i1 => hcls i (by omega) (by omega)), ⟨?_, ?_⟩, ?_, ?_, by omega⟩, ⟨(eM 399 (by omega) (by omega) (by omega) (by omega) (by omega)).trans m1, ⟨(e8 4 (by omega) (by omega)).trans m2, fun z => (eM 402 (by omega) (by omega) (by omega) (by omega) (by omega)).trans (m3 z)⟩, ⟨(e8 6 (by omega) (by omega)).trans m4, fun k j k0 k1 j0 j1 => ?_⟩, ⟨⟨(e8 15 (by omega) (by omega)).trans m6, g6⟩, (e8 16 (by omega) (by omega)).trans m7, g7⟩, ?_, zu_same _ _ _ _⟩, ⟨hB.1, hB.2.1, hB.2.2.1, fun j => ?_⟩, zCO_in hO (eM 396 (by omega) (by omega) (by omega) (by omega) (by omega)) (eM 397 (by omega) (by omega) (by omega) (by omega) (by omega)) (e8 10 (by omega) (by omega)) (eM 405 (by omega) (by omega) (by omega) (by omega) (by omega))⟩
      · rw [zu_ne (by omega), zu_ne (by omega), zu_same]
      · rw [er 408 (by omega) (by omega), h408, e1]
      · exact zRS_in k1 hG.b1 hG.b2 (fun i i0 i1 => hcls i (by omega) (by omega))
      · exact (congrFun (hcls 0 (by omega) (by omega)).1 6).trans k3
      · exact zRS_in (k4 z) (hB.2.1.2 z).1.b1 (hB.2.1.2 z).1.b2 (fun i i0 i1 => hcls i (by omega) (by omega))
      · exact (congrFun (hcls 0 (by omega) (by omega)).1 7).trans k6.1
      · exact (congrFun (hcls 0 (by omega) (by omega)).1 8).trans k6.2
      · rw [er 376 (by omega) (by omega), h376]
      · rw [er 375 (by omega) (by omega), h3751]
      · rw [eM 403 (by omega) (by omega) (by omega) (by omega) (by omega)]
        exact m5 k j k0 k1 j0 j1
      · rw [zu_row (by omega), zu_self, zu_row (by omega), e406]
      · show 0 ≤ (if j = n then x0 else T j) ∧ (if j = n then x0 else T j) < 65536
        split
        · exact hx
        · exact hB.2.2.2 j
    · omega
theorem lw_undo (l : Launch) (g : zG) (ad : Int → Nat) {t d : Int} {M F : zMem} (h : zCR t d M F) (ht : t ≤ 50000000) (hd : d ≤ 9000) (hRM : zRM M) : zLS l g ad yL_undo cL_undo 3 [(0, 8, 11, 13)] 9 1 6 [.ref (ad 0), .ref (ad 408)] yX12_undo cX12_undo 1 (some .int) 1 [.ref (ad 398)] M F (zAi t d) := by
  obtain ⟨V, sv, S, many, U, ep, fc, T, n, hK, hMo, hB, hO⟩ := id h
  have hV := hMo.1
  have hG := hB.1.2.1
  have hI := hG.1
  have hmb := hK.2.2.2.1.2.2.1
  refine ⟨_, ch_undo l g ad M F _ _ (ct_X11_undo l g ad M F V t t many U hK.1 hG hK.2.2.2.1) (fun E M' F' q => q.1), fun k M1 F1 hp hR1 => ?_⟩
  have hc : (k = 0 ∧ 0 < many ∧ ∃ M0, zRS 1 (U 0) M0 F1 ∧ zHi t (many - 1) (fun k => U (k + 1)) M0 F1 ∧ zFr M F M0 F1 ∧ M1 = zu M0 408 0 (many - 1)) ∨ (k = 1 ∧ many = 0 ∧ M1 = M ∧ F1 = F) := by
    rcases hp with ⟨rfl, r, M0, hr, ⟨h0, rfl, a1, a2, a3⟩, rfl⟩ | ⟨rfl, e9, h0, rfl, rfl⟩
    · exact Or.inl ⟨rfl, h0, M0, a1, a2, a3, rfl⟩
    · exact Or.inr ⟨rfl, h0, rfl, rfl⟩
  have row : ∀ i, 398 ≤ i → i ≠ 408 → M1 i = M i := fun i i0 i1 => by
    rcases hc with ⟨_, _, M0, _, _, a3, rfl⟩ | ⟨_, _, rfl, _⟩
    · exact (zu_row i1).trans (a3 i (by omega) (by omega)).1
    · rfl
  have e6 : M1 398 6 = many := (congrFun (row 398 (by omega) (by omega)) 6).trans hMo.2.2.1.1
  have hzv : 0 < many → ∀ j, zR (U 0 j) := fun z => (hB.2.2.1 0 (by omega) z).2
  by_cases h0 : many = 0
  · rcases hc with ⟨_, z, _⟩ | ⟨rfl, _, rfl, rfl⟩
    · omega
    refine ⟨_, ct_X12_undo l g ad M1 F1 (fun _ => 0) (fun _ => zR_mk (by decide) (by decide)) (by rw [e6]; exact hmb) (fun z => by omega), fun v M2 F2 hm => ?_⟩
    obtain ⟨b, rfl, hb, hm⟩ := hm
    rcases hm with ⟨_, e1, rfl, rfl⟩ | ⟨z, _⟩
    · exact ⟨b, rfl, hb, zu_same _ _ _ _, fun z => absurd z (by decide), lq_rel h (fun _ _ => rfl) (fun _ _ _ _ => rfl) (fun i a1 _ _ _ => zu_row a1) (fun j j0 => zu_ne (by omega)) rfl⟩
    · omega
  · obtain ⟨rfl, hpos, M0, a1, a2, a3, rfl⟩ := hc.resolve_right (fun z => h0 z.2.1)
    refine ⟨_, ct_X12_undo l g ad _ F1 (U 0) (hzv hpos) (by rw [e6]; exact hmb) (fun _ j j0 j1 => ?_), fun v M2 F2 hm => ?_⟩
    · rw [e6, row 403 (by omega) (by omega), ← hMo.2.2.1.2 0 j (by omega) hpos j0 j1, show many - 1 - 0 = many - 1 by omega]
    obtain ⟨b, rfl, hb, hm⟩ := hm
    rw [e6] at hm
    rcases hm with ⟨z, _⟩ | ⟨_, e1, rfl, rfl⟩
    · omega
    obtain ⟨m1, ⟨m2, m3⟩, ⟨m4, m5⟩, ⟨⟨m6, g6⟩, m7, g7⟩, m8, m9⟩ := hMo
    obtain ⟨k1, ⟨k2a, k2b⟩, ⟨k3, k4⟩, k5, k6, b1, b2, b3⟩ := hK
    have hU := k5.2.2.2.1 0 (by omega) hpos
    have er : ∀ i, i ≠ 398 → i ≠ 399 → i ≠ 408 → zrow (zu (zu (zu M0 408 0 (many - 1)) 398 8 0) 398 6 (many - 1)) 399 (U 0) i = M0 i := fun i i0 i1 i2 => by rw [zrow_ne i1, zu_row i0, zu_row i0, zu_row i2]
    have eM : ∀ i, i ≠ 398 → i ≠ 399 → i ≠ 408 → ¬(1 ≤ i ∧ i < 32) → ¬(94 ≤ i ∧ i < 375) → zrow (zu (zu (zu M0 408 0 (many - 1)) 398 8 0) 398 6 (many - 1)) 399 (U 0) i = M i ∧ F1 i = F i := fun i i0 i1 i2 i3 i4 => ⟨(er i i0 i1 i2).trans (a3 i i3 i4).1, (a3 i i3 i4).2⟩
    have e8 : ∀ j, j ≠ 6 → j ≠ 8 → zrow (zu (zu (zu M0 408 0 (many - 1)) 398 8 0) 398 6 (many - 1)) 399 (U 0) 398 j = M 398 j := fun j j0 j1 => by
      rw [zrow_ne (by omega), zu_ne (by omega), zu_ne (by omega), zu_row (by omega), (a3 398 (by omega) (by omega)).1]
    refine ⟨b, rfl, hb, ?_, fun _ => ?_, U 0, sv, S, many - 1, (fun k => U (k + 1)), ep, fc, T, n, ⟨zRS_in a1 hU.2.b1 hU.2.b2 (fun i i0 i1 => ⟨er i (by omega) (by omega) (by omega), rfl⟩), ⟨zRp_in k2a (eM (32 + 6) (by omega) (by omega) (by omega) (by omega) (by omega)).2, zRp_in k2b (eM (63 + 6) (by omega) (by omega) (by omega) (by omega) (by omega)).2⟩, ⟨?_, fun z => zRS_in (k4 z) (hB.2.1.2 z).1.b1 (hB.2.1.2 z).1.b2 (fun i i0 i1 => eM i (by omega) (by omega) (by omega) (by omega) (by omega))⟩, zHi_in a2 (fun i i0 i1 => ⟨er i (by omega) (by omega) (by omega), rfl⟩), ⟨?_, ?_⟩, ?_, ?_, b3⟩, ⟨if_pos rfl, ⟨(e8 4 (by omega) (by omega)).trans m2, fun z => ?_⟩, ⟨?_, fun k j k0 k1 j0 j1 => ?_⟩, ⟨⟨(e8 15 (by omega) (by omega)).trans m6, g6⟩, (e8 16 (by omega) (by omega)).trans m7, g7⟩, ?_, (e8 12 (by omega) (by omega)).trans m9⟩, ⟨⟨hB.1.1, hU.2, (hB.2.2.1 0 (by omega) hpos).1⟩, hB.2.1, fun k k0 k1 => hB.2.2.1 (k + 1) (by omega) (by omega), hB.2.2.2⟩, zCO_in hO (eM 396 (by omega) (by omega) (by omega) (by omega) (by omega)).1 (eM 397 (by omega) (by omega) (by omega) (by omega) (by omega)).1 (e8 10 (by omega) (by omega)) (eM 405 (by omega) (by omega) (by omega) (by omega) (by omega)).1⟩
    · rw [zrow_ne (by omega), zu_ne (by omega), zu_same]
    · rw [zrow_ne (by omega), zu_row (by omega), zu_row (by omega), zu_same, e1]
    · rw [(eM 0 (by omega) (by omega) (by omega) (by omega) (by omega)).1]; exact k3
    · rw [(eM 0 (by omega) (by omega) (by omega) (by omega) (by omega)).1]; exact k6.1
    · rw [(eM 0 (by omega) (by omega) (by omega) (by omega) (by omega)).1]; exact k6.2
    · rw [(eM 376 (by omega) (by omega) (by omega) (by omega) (by omega)).1]; exact b1
    · rw [(eM 375 (by omega) (by omega) (by omega) (by omega) (by omega)).1]; exact b2
    · rw [(eM 402 (by omega) (by omega) (by omega) (by omega) (by omega)).1]; exact m3 z
    · rw [zrow_ne (by omega), zu_same]
    · rw [(eM 403 (by omega) (by omega) (by omega) (by omega) (by omega)).1]
      show M 403 _ = U (k + 1) j
      rw [← m5 (k + 1) j (by omega) (by omega) j0 j1, show many - 1 - (k + 1) = many - 1 - 1 - k by omega]
    · rw [(eM 406 (by omega) (by omega) (by omega) (by omega) (by omega)).1]; exact m8
