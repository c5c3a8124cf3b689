/-! questions that may be refused -/
theorem lw_tunnelDelay (l : Launch) (g : zG) (ad : Int → Nat) {t d : Int} {M F : zMem} (h : zCR t d M F) (ht : t ≤ 50000000) (hd : d ≤ 9000) (hRM : zRM M) (x0 : Int) (hx0 : zR x0) (x1 : Int) (hx1 : zR x1) : zLS l g ad yL_tunnelDelay cL_tunnelDelay 5 [(0, 10, 13, 19), (0, 10, 17, 27)] 9 3 18 [.ref (ad 0), .int (zI x0), .int (zI x1), .ref (ad 408)] yX12_tunnelDelay cX12_tunnelDelay 3 (some .int) 2 [.ref (ad 398), .int (zI x0), .int (zI x1)] M F (zAi t d) := by
  obtain ⟨V, sv, S, many, U, ep, fc, T, n, hK, hMo, hB, hO⟩ := id h
  have hV := hMo.1
  have hG := hB.1.2.1
  have hI := hG.1
  refine ⟨_, ch_tunnelDelay l g ad M F x0 x1 _ _ (ct_X11_tunnelDelay l g ad M F V t x0 hx0 x1 hx1 hK.1 hI) (fun E M' F' q => by rcases q.1 with q | q <;> first | exact Or.inl q.1 | exact Or.inr q.1), fun k M1 F1 hp hR1 => ?_⟩
  have hs : F1 = F ∧ (∀ i, i ≠ 408 → i ≠ 5 → M1 i = M i) ∧ (k, if k = 0 then M1 408 0 else 0) = zqTD x0 x1 V := by
    rcases hp with ⟨rfl, r, M0, hr, ⟨hc, rfl, rfl, rfl⟩, rfl⟩ | ⟨rfl, hc, rfl, rfl⟩ | ⟨rfl, hc, rfl, rfl⟩
    · refine ⟨rfl, fun i a1 _ => zu_row a1, ?_⟩
      rw [if_pos rfl, zu_same]
      unfold zqTD
      rw [if_neg (fun z => z hc.1), if_neg hc.2]
    · refine ⟨rfl, fun i _ _ => rfl, ?_⟩
      rcases hc with ⟨e9, hc⟩ | ⟨e9, hc⟩
      · rw [if_neg (by decide : ¬ (1 : Int) = 0)]
        unfold zqTD
        rw [if_pos hc]
      · exact absurd e9 (by decide)
    · refine ⟨rfl, fun i _ _ => rfl, ?_⟩
      rcases hc with ⟨e9, hc⟩ | ⟨e9, hc⟩
      · exact absurd e9 (by decide)
      · rw [if_neg (by decide : ¬ (2 : Int) = 0)]
        unfold zqTD
        rw [if_neg (fun z => z hc.1), if_pos hc.2]
  have hV1 : M1 399 = V := (hs.2.1 399 (by omega) (by omega)).trans hV
  refine ⟨_, ct_X12_tunnelDelay l g ad M1 F1 x0 hx0 x1 hx1 (by rw [hV1]; exact hI.1), fun v M2 F2 hm => ?_⟩
  obtain ⟨b, rfl, hb, e1, rfl, rfl⟩ := hm
  rw [hV1] at e1 ⊢
  exact lq_std h hs hb e1 (fun i a1 a2 a3 a4 => zu_row a1) (zu_same _ _ _ _) (fun j j0 => zu_ne (by omega)) rfl
theorem lw_shortestDelay (l : Launch) (g : zG) (ad : Int → Nat) {t d : Int} {M F : zMem} (h : zCR t d M F) (ht : t ≤ 50000000) (hd : d ≤ 9000) (hRM : zRM M) (x0 : Int) (hx0 : zR x0) (x1 : Int) (hx1 : zR x1) : zLS l g ad yL_shortestDelay cL_shortestDelay 5 [(0, 10, 13, 19), (0, 10, 17, 27)] 9 3 18 [.ref (ad 0), .int (zI x0), .int (zI x1), .ref (ad 408)] yX12_shortestDelay cX12_shortestDelay 3 (some .int) 2 [.ref (ad 398), .int (zI x0), .int (zI x1)] M F (zAi t d) := by
  obtain ⟨V, sv, S, many, U, ep, fc, T, n, hK, hMo, hB, hO⟩ := id h
  have hV := hMo.1
  have hG := hB.1.2.1
  have hI := hG.1
  refine ⟨_, ch_shortestDelay l g ad M F x0 x1 _ _ (ct_X11_shortestDelay l g ad M F V t x0 hx0 x1 hx1 hK.1 hI) (fun E M' F' q => by rcases q.1 with q | q <;> first | exact Or.inl q.1 | exact Or.inr q.1), fun k M1 F1 hp hR1 => ?_⟩
  have hs : F1 = F ∧ (∀ i, i ≠ 408 → i ≠ 5 → M1 i = M i) ∧ (k, if k = 0 then M1 408 0 else 0) = zqSD x0 x1 V := by
    rcases hp with ⟨rfl, r, M0, hr, ⟨hc, rfl, rfl, rfl⟩, rfl⟩ | ⟨rfl, hc, rfl, rfl⟩ | ⟨rfl, hc, rfl, rfl⟩
    · refine ⟨rfl, fun i a1 _ => zu_row a1, ?_⟩
      rw [if_pos rfl, zu_same]
      unfold zqSD
      rw [if_neg (fun z => z hc.1), if_neg hc.2]
    · refine ⟨rfl, fun i _ _ => rfl, ?_⟩
      rcases hc with ⟨e9, hc⟩ | ⟨e9, hc⟩
      · rw [if_neg (by decide : ¬ (1 : Int) = 0)]
        unfold zqSD
        rw [if_pos hc]
      · exact absurd e9 (by decide)
    · refine ⟨rfl, fun i _ _ => rfl, ?_⟩
      rcases hc with ⟨e9, hc⟩ | ⟨e9, hc⟩
      · exact absurd e9 (by decide)
      · rw [if_neg (by decide : ¬ (2 : Int) = 0)]
        unfold zqSD
        rw [if_neg (fun z => z hc.1), if_pos hc.2]
  have hV1 : M1 399 = V := (hs.2.1 399 (by omega) (by omega)).trans hV
  refine ⟨_, ct_X12_shortestDelay l g ad M1 F1 x0 hx0 x1 hx1 (by rw [hV1]; exact hI.1) (by rw [hV1]; exact hI.2.2.2.2.1), fun v M2 F2 hm => ?_⟩
  obtain ⟨b, rfl, hb, w, e1, rfl, rfl⟩ := hm
  rw [hV1] at e1 ⊢
  exact lq_std h hs hb e1 (fun i a1 a2 a3 a4 => (zu_row a1).trans (zrow_ne a4)) (zu_same _ _ _ _) (fun j j0 => (zu_ne (by omega)).trans (congrFun (zrow_ne (by omega)) j)) rfl
theorem lw_chamberOf (l : Launch) (g : zG) (ad : Int → Nat) {t d : Int} {M F : zMem} (h : zCR t d M F) (ht : t ≤ 50000000) (hd : d ≤ 9000) (hRM : zRM M) (x0 : Int) (hx0 : zR x0) : zLS l g ad yL_chamberOf cL_chamberOf 4 [(0, 9, 12, 19)] 9 1 6 [.ref (ad 0), .int (zI x0), .ref (ad 408)] yX12_chamberOf cX12_chamberOf 2 (some .int) 2 [.ref (ad 398), .int (zI x0)] M F (zAi t d) := by
  obtain ⟨V, sv, S, many, U, ep, fc, T, n, hK, hMo, hB, hO⟩ := id h
  have hV := hMo.1
  have hG := hB.1.2.1
  have hI := hG.1
  refine ⟨_, ch_chamberOf l g ad M F x0 _ _ (ct_X11_chamberOf l g ad M F V t x0 hx0 hK.1 hI) (fun E M' F' q => by exact q.1.1), fun k M1 F1 hp hR1 => ?_⟩
  have hs : F1 = F ∧ (∀ i, i ≠ 408 → i ≠ 5 → M1 i = M i) ∧ (k, if k = 0 then M1 408 0 else 0) = zqH x0 0 V := by
    rcases hp with ⟨rfl, r, M0, hr, ⟨hc, rfl, rfl, rfl⟩, rfl⟩ | ⟨rfl, hc, rfl, rfl⟩
    · refine ⟨rfl, fun i a1 _ => zu_row a1, ?_⟩
      rw [if_pos rfl, zu_same]
      unfold zqH
      rw [if_neg (fun z => z hc)]
    · refine ⟨rfl, fun i _ _ => rfl, ?_⟩
      obtain ⟨e9, hc⟩ := hc
      rw [if_neg (by decide : ¬ (1 : Int) = 0)]
      unfold zqH
      rw [if_pos hc]
  have hV1 : M1 399 = V := (hs.2.1 399 (by omega) (by omega)).trans hV
  refine ⟨_, ct_X12_chamberOf l g ad M1 F1 x0 hx0 (by rw [hV1]; exact hI.2.1), fun v M2 F2 hm => ?_⟩
  obtain ⟨b, rfl, hb, e1, rfl, rfl⟩ := hm
  rw [hV1] at e1 ⊢
  exact lq_std h hs hb e1 (fun i a1 a2 a3 a4 => zu_row a1) (zu_same _ _ _ _) (fun j j0 => zu_ne (by omega)) rfl
theorem lw_received (l : Launch) (g : zG) (ad : Int → Nat) {t d : Int} {M F : zMem} (h : zCR t d M F) (ht : t ≤ 50000000) (hd : d ≤ 9000) (hRM : zRM M) (x0 : Int) (hx0 : zR x0) : zLS l g ad yL_received cL_received 4 [(0, 9, 12, 19)] 9 1 6 [.ref (ad 0), .int (zI x0), .ref (ad 408)] yX12_received cX12_received 2 (some .int) 2 [.ref (ad 398), .int (zI x0)] M F (zAi t d) := by
  obtain ⟨V, sv, S, many, U, ep, fc, T, n, hK, hMo, hB, hO⟩ := id h
  have hV := hMo.1
  have hG := hB.1.2.1
  have hI := hG.1
  refine ⟨_, ch_received l g ad M F x0 _ _ (ct_X11_received l g ad M F V t x0 hx0 hK.1 hI) (fun E M' F' q => by exact q.1.1), fun k M1 F1 hp hR1 => ?_⟩
  have hs : F1 = F ∧ (∀ i, i ≠ 408 → i ≠ 5 → M1 i = M i) ∧ (k, if k = 0 then M1 408 0 else 0) = zqH x0 2 V := by
    rcases hp with ⟨rfl, r, M0, hr, ⟨hc, rfl, rfl, rfl⟩, rfl⟩ | ⟨rfl, hc, rfl, rfl⟩
    · refine ⟨rfl, fun i a1 _ => zu_row a1, ?_⟩
      rw [if_pos rfl, zu_same]
      unfold zqH
      rw [if_neg (fun z => z hc)]
    · refine ⟨rfl, fun i _ _ => rfl, ?_⟩
      obtain ⟨e9, hc⟩ := hc
      rw [if_neg (by decide : ¬ (1 : Int) = 0)]
      unfold zqH
      rw [if_pos hc]
  have hV1 : M1 399 = V := (hs.2.1 399 (by omega) (by omega)).trans hV
  refine ⟨_, ct_X12_received l g ad M1 F1 x0 hx0 (by rw [hV1]; exact hI.2.1), fun v M2 F2 hm => ?_⟩
  obtain ⟨b, rfl, hb, e1, rfl, rfl⟩ := hm
  rw [hV1] at e1 ⊢
  exact lq_std h hs hb e1 (fun i a1 a2 a3 a4 => zu_row a1) (zu_same _ _ _ _) (fun j j0 => zu_ne (by omega)) rfl
theorem lw_isListening (l : Launch) (g : zG) (ad : Int → Nat) {t d : Int} {M F : zMem} (h : zCR t d M F) (ht : t ≤ 50000000) (hd : d ≤ 9000) (hRM : zRM M) (x0 : Int) (hx0 : zR x0) : zLS l g ad yL_isListening cL_isListening 4 [(0, 16, 19, 19)] 9 1 6 [.ref (ad 0), .int (zI x0), .ref (ad 408)] yX12_isListening cX12_isListening 2 (some .boolean) 2 [.ref (ad 398), .int (zI x0)] M F (zAb t d) := by
  obtain ⟨V, sv, S, many, U, ep, fc, T, n, hK, hMo, hB, hO⟩ := id h
  have hV := hMo.1
  have hG := hB.1.2.1
  have hI := hG.1
  refine ⟨_, ch_isListening l g ad M F x0 _ _ (ct_X11_isListening l g ad M F V t x0 hx0 hK.1 hI) (fun E M' F' q => by exact q.1.1) (fun r M' F' q => by have h9 := (hG.hares x0 q.1.1 q.1.2).2.1; rw [← q.2.1]; exact h9), fun k M1 F1 hp hR1 => ?_⟩
  have hs : F1 = F ∧ (∀ i, i ≠ 408 → i ≠ 5 → M1 i = M i) ∧ (k, if k = 0 then M1 408 0 else 0) = zqLi x0 V := by
    rcases hp with ⟨rfl, r, M0, hr, ⟨hc, rfl, rfl, rfl⟩, rfl⟩ | ⟨rfl, hc, rfl, rfl⟩
    · refine ⟨rfl, fun i a1 _ => zu_row a1, ?_⟩
      rw [if_pos rfl, zu_same]
      unfold zqLi
      rw [if_neg (fun z => z hc)]
      have h9 := (hG.hares x0 hc.1 hc.2).2.1
      show ((0 : Int), V (72 + 4 * x0 + 1)) = (0, zb (V (72 + 4 * x0 + 1) = 1))
      rcases h9 with h9 | h9 <;> rw [h9] <;> rfl
    · refine ⟨rfl, fun i _ _ => rfl, ?_⟩
      obtain ⟨e9, hc⟩ := hc
      rw [if_neg (by decide : ¬ (1 : Int) = 0)]
      unfold zqLi
      rw [if_pos hc]
  have hV1 : M1 399 = V := (hs.2.1 399 (by omega) (by omega)).trans hV
  refine ⟨_, ct_X12_isListening l g ad M1 F1 x0 hx0 (by rw [hV1]; exact hI.2.1), fun v M2 F2 hm => ?_⟩
  obtain ⟨b, rfl, hb, e1, rfl, rfl⟩ := hm
  rw [hV1] at e1 ⊢
  exact lq_bool (lq_std h hs hb e1 (fun i a1 a2 a3 a4 => zu_row a1) (zu_same _ _ _ _) (fun j j0 => zu_ne (by omega)) rfl) hb (by rw [← e1]; unfold zqLi; (repeat' split) <;> first | exact Or.inl rfl | (show zb _ = 0 ∨ zb _ = 1; unfold zb; split <;> omega))
theorem lw_isDrumming (l : Launch) (g : zG) (ad : Int → Nat) {t d : Int} {M F : zMem} (h : zCR t d M F) (ht : t ≤ 50000000) (hd : d ≤ 9000) (hRM : zRM M) (x0 : Int) (hx0 : zR x0) : zLS l g ad yL_isDrumming cL_isDrumming 4 [(0, 16, 19, 19)] 9 1 6 [.ref (ad 0), .int (zI x0), .ref (ad 408)] yX12_isDrumming cX12_isDrumming 2 (some .boolean) 2 [.ref (ad 398), .int (zI x0)] M F (zAb t d) := by
  obtain ⟨V, sv, S, many, U, ep, fc, T, n, hK, hMo, hB, hO⟩ := id h
  have hV := hMo.1
  have hG := hB.1.2.1
  have hI := hG.1
  refine ⟨_, ch_isDrumming l g ad M F x0 _ _ (ct_X11_isDrumming l g ad M F V t x0 hx0 hK.1 hI) (fun E M' F' q => by exact q.1.1) (fun r M' F' q => by rw [← q.2.1]; unfold zb; split <;> omega), fun k M1 F1 hp hR1 => ?_⟩
  have hs : F1 = F ∧ (∀ i, i ≠ 408 → i ≠ 5 → M1 i = M i) ∧ (k, if k = 0 then M1 408 0 else 0) = zqDr x0 V := by
    rcases hp with ⟨rfl, r, M0, hr, ⟨hc, rfl, rfl, rfl⟩, rfl⟩ | ⟨rfl, hc, rfl, rfl⟩
    · refine ⟨rfl, fun i a1 _ => zu_row a1, ?_⟩
      rw [if_pos rfl, zu_same]
      unfold zqDr
      rw [if_neg (fun z => z hc)]
    · refine ⟨rfl, fun i _ _ => rfl, ?_⟩
      obtain ⟨e9, hc⟩ := hc
      rw [if_neg (by decide : ¬ (1 : Int) = 0)]
      unfold zqDr
      rw [if_pos hc]
  have hV1 : M1 399 = V := (hs.2.1 399 (by omega) (by omega)).trans hV
  refine ⟨_, ct_X12_isDrumming l g ad M1 F1 x0 hx0 (by rw [hV1]; exact hI.2.1) (by rw [hV1]; exact hI.2.2.1), fun v M2 F2 hm => ?_⟩
  obtain ⟨b, rfl, hb, e1, rfl, rfl⟩ := hm
  rw [hV1] at e1 ⊢
  exact lq_bool (lq_std h hs hb e1 (fun i a1 a2 a3 a4 => zu_row a1) (zu_same _ _ _ _) (fun j j0 => zu_ne (by omega)) rfl) hb (by rw [← e1]; unfold zqDr; (repeat' split) <;> first | exact Or.inl rfl | (show zb _ = 0 ∨ zb _ = 1; unfold zb; split <;> omega))
theorem lw_latestNumber (l : Launch) (g : zG) (ad : Int → Nat) {t d : Int} {M F : zMem} (h : zCR t d M F) (ht : t ≤ 50000000) (hd : d ≤ 9000) (hRM : zRM M) (x0 : Int) (hx0 : zR x0) : zLS l g ad yL_latestNumber cL_latestNumber 4 [(0, 9, 12, 19), (0, 9, 15, 27)] 9 2 12 [.ref (ad 0), .int (zI x0), .ref (ad 408)] yX12_latestNumber cX12_latestNumber 2 (some .int) 2 [.ref (ad 398), .int (zI x0)] M F (zAi t d) := by
  obtain ⟨V, sv, S, many, U, ep, fc, T, n, hK, hMo, hB, hO⟩ := id h
  have hV := hMo.1
  have hG := hB.1.2.1
  have hI := hG.1
  refine ⟨_, ch_latestNumber l g ad M F x0 _ _ (ct_X11_latestNumber l g ad M F V t x0 hx0 hK.1 hI hG.la) (fun E M' F' q => by rcases q.1 with q | q <;> first | exact Or.inl q.1 | exact Or.inr q.1), fun k M1 F1 hp hR1 => ?_⟩
  have hs : F1 = F ∧ (∀ i, i ≠ 408 → i ≠ 5 → M1 i = M i) ∧ (k, if k = 0 then M1 408 0 else 0) = zqLa x0 V := by
    rcases hp with ⟨rfl, r, M0, hr, ⟨hc, rfl, rfl, rfl⟩, rfl⟩ | ⟨rfl, hc, rfl, rfl⟩ | ⟨rfl, hc, rfl, rfl⟩
    · refine ⟨rfl, fun i a1 _ => zu_row a1, ?_⟩
      rw [if_pos rfl, zu_same]
      unfold zqLa
      rw [if_neg (fun z => z hc.1), if_neg (fun z => by have := (hG.la x0 hc.1.1 hc.1.2).mpr z; omega)]
    · refine ⟨rfl, fun i _ _ => rfl, ?_⟩
      rcases hc with ⟨e9, hc⟩ | ⟨e9, hc⟩
      · rw [if_neg (by decide : ¬ (1 : Int) = 0)]
        unfold zqLa
        rw [if_pos hc]
      · exact absurd e9 (by decide)
    · refine ⟨rfl, fun i _ _ => rfl, ?_⟩
      rcases hc with ⟨e9, hc⟩ | ⟨e9, hc⟩
      · exact absurd e9 (by decide)
      · rw [if_neg (by decide : ¬ (2 : Int) = 0)]
        unfold zqLa
        rw [if_neg (fun z => z hc.1), if_pos ((hG.la x0 hc.1.1 hc.1.2).mp (by have := (hG.hares x0 hc.1.1 hc.1.2).2.2.1; omega))]
  have hV1 : M1 399 = V := (hs.2.1 399 (by omega) (by omega)).trans hV
  refine ⟨_, ct_X12_latestNumber l g ad M1 F1 x0 hx0 (by rw [hV1]; exact hI.2.1) (fun a a0 a1 => by rw [hV1] at a1 ⊢; exact (hG.hares a a0 a1).2.2.2.1), fun v M2 F2 hm => ?_⟩
  obtain ⟨b, rfl, hb, e1, rfl, rfl⟩ := hm
  rw [hV1] at e1 ⊢
  exact lq_std h hs hb e1 (fun i a1 a2 a3 a4 => zu_row a1) (zu_same _ _ _ _) (fun j j0 => zu_ne (by omega)) rfl
theorem lw_message (l : Launch) (g : zG) (ad : Int → Nat) {t d : Int} {M F : zMem} (h : zCR t d M F) (ht : t ≤ 50000000) (hd : d ≤ 9000) (hRM : zRM M) (x0 : Int) (hx0 : zR x0) : zLS l g ad yL_message cL_message 4 [(0, 9, 12, 19)] 9 1 6 [.ref (ad 0), .int (zI x0), .ref (ad 408)] yX12_message cX12_message 2 (some .int) 1 [.ref (ad 398), .int (zI x0)] M F (zAi t d) := by
  obtain ⟨V, sv, S, many, U, ep, fc, T, n, hK, hMo, hB, hO⟩ := id h
  have hV := hMo.1
  have hG := hB.1.2.1
  have hI := hG.1
  refine ⟨_, ch_message l g ad M F x0 _ _ (ct_X11_message l g ad M F V t x0 hx0 hK.1 hI) (fun E M' F' q => by exact q.1.1), fun k M1 F1 hp hR1 => ?_⟩
  have hs : F1 = F ∧ (∀ i, i ≠ 408 → i ≠ 5 → M1 i = M i) ∧ (k, if k = 0 then M1 408 0 else 0) = zqMs x0 V := by
    rcases hp with ⟨rfl, r, M0, hr, ⟨hc, rfl, rfl, rfl⟩, rfl⟩ | ⟨rfl, hc, rfl, rfl⟩
    · refine ⟨rfl, fun i a1 _ => zu_row a1, ?_⟩
      rw [if_pos rfl, zu_same]
      unfold zqMs
      rw [if_neg (fun z => z hc)]
    · refine ⟨rfl, fun i _ _ => rfl, ?_⟩
      obtain ⟨e9, hc⟩ := hc
      rw [if_neg (by decide : ¬ (1 : Int) = 0)]
      unfold zqMs
      rw [if_pos hc]
  have hV1 : M1 399 = V := (hs.2.1 399 (by omega) (by omega)).trans hV
  refine ⟨_, ct_X12_message l g ad M1 F1 x0 hx0 (by rw [hV1]; exact hI.2.2.1), fun v M2 F2 hm => ?_⟩
  obtain ⟨b, rfl, hb, e1, rfl, rfl⟩ := hm
  rw [hV1] at e1 ⊢
  exact lq_std h hs hb e1 (fun i a1 a2 a3 a4 => zu_row a1) (zu_same _ _ _ _) (fun j j0 => zu_ne (by omega)) rfl
theorem lw_sender (l : Launch) (g : zG) (ad : Int → Nat) {t d : Int} {M F : zMem} (h : zCR t d M F) (ht : t ≤ 50000000) (hd : d ≤ 9000) (hRM : zRM M) (x0 : Int) (hx0 : zR x0) : zLS l g ad yL_sender cL_sender 4 [(0, 9, 12, 27)] 9 1 6 [.ref (ad 0), .int (zI x0), .ref (ad 408)] yX12_sender cX12_sender 2 (some .int) 3 [.ref (ad 398), .int (zI x0)] M F (zAi t d) := by
  obtain ⟨V, sv, S, many, U, ep, fc, T, n, hK, hMo, hB, hO⟩ := id h
  have hV := hMo.1
  have hG := hB.1.2.1
  have hI := hG.1
  refine ⟨_, ch_sender l g ad M F x0 _ _ (ct_X11_sender l g ad M F V t x0 hx0 hK.1 hI hG.idd) (fun E M' F' q => by exact q.1.1), fun k M1 F1 hp hR1 => ?_⟩
  have hs : F1 = F ∧ (∀ i, i ≠ 408 → i ≠ 5 → M1 i = M i) ∧ (k, if k = 0 then M1 408 0 else 0) = zqT x0 1 V := by
    rcases hp with ⟨rfl, r, M0, hr, ⟨hc, rfl, rfl, rfl⟩, rfl⟩ | ⟨rfl, hc, rfl, rfl⟩
    · refine ⟨rfl, fun i a1 _ => zu_row a1, ?_⟩
      rw [if_pos rfl, zu_same]
      unfold zqT
      rw [if_neg (by have := (zpl_bd (x := x0) (V := V)).1; omega)]
    · refine ⟨rfl, fun i _ _ => rfl, ?_⟩
      obtain ⟨e9, hc⟩ := hc
      rw [if_neg (by decide : ¬ (1 : Int) = 0)]
      unfold zqT
      rw [if_pos (by have := (zpl_bd (x := x0) (V := V)).1; omega)]
  have hV1 : M1 399 = V := (hs.2.1 399 (by omega) (by omega)).trans hV
  refine ⟨_, ct_X12_sender l g ad M1 F1 x0 hx0 (by rw [hV1]; exact hI.2.2.1), fun v M2 F2 hm => ?_⟩
  obtain ⟨b, rfl, hb, e1, rfl, rfl⟩ := hm
  rw [hV1] at e1 ⊢
  exact lq_std h hs hb e1 (fun i a1 a2 a3 a4 => zu_row a1) (zu_same _ _ _ _) (fun j j0 => zu_ne (by omega)) rfl
theorem lw_receiver (l : Launch) (g : zG) (ad : Int → Nat) {t d : Int} {M F : zMem} (h : zCR t d M F) (ht : t ≤ 50000000) (hd : d ≤ 9000) (hRM : zRM M) (x0 : Int) (hx0 : zR x0) : zLS l g ad yL_receiver cL_receiver 4 [(0, 9, 12, 27)] 9 1 6 [.ref (ad 0), .int (zI x0), .ref (ad 408)] yX12_receiver cX12_receiver 2 (some .int) 3 [.ref (ad 398), .int (zI x0)] M F (zAi t d) := by
  obtain ⟨V, sv, S, many, U, ep, fc, T, n, hK, hMo, hB, hO⟩ := id h
  have hV := hMo.1
  have hG := hB.1.2.1
  have hI := hG.1
  refine ⟨_, ch_receiver l g ad M F x0 _ _ (ct_X11_receiver l g ad M F V t x0 hx0 hK.1 hI hG.idd) (fun E M' F' q => by exact q.1.1), fun k M1 F1 hp hR1 => ?_⟩
  have hs : F1 = F ∧ (∀ i, i ≠ 408 → i ≠ 5 → M1 i = M i) ∧ (k, if k = 0 then M1 408 0 else 0) = zqT x0 2 V := by
    rcases hp with ⟨rfl, r, M0, hr, ⟨hc, rfl, rfl, rfl⟩, rfl⟩ | ⟨rfl, hc, rfl, rfl⟩
    · refine ⟨rfl, fun i a1 _ => zu_row a1, ?_⟩
      rw [if_pos rfl, zu_same]
      unfold zqT
      rw [if_neg (by have := (zpl_bd (x := x0) (V := V)).1; omega)]
    · refine ⟨rfl, fun i _ _ => rfl, ?_⟩
      obtain ⟨e9, hc⟩ := hc
      rw [if_neg (by decide : ¬ (1 : Int) = 0)]
      unfold zqT
      rw [if_pos (by have := (zpl_bd (x := x0) (V := V)).1; omega)]
  have hV1 : M1 399 = V := (hs.2.1 399 (by omega) (by omega)).trans hV
  refine ⟨_, ct_X12_receiver l g ad M1 F1 x0 hx0 (by rw [hV1]; exact hI.2.2.1), fun v M2 F2 hm => ?_⟩
  obtain ⟨b, rfl, hb, e1, rfl, rfl⟩ := hm
  rw [hV1] at e1 ⊢
  exact lq_std h hs hb e1 (fun i a1 a2 a3 a4 => zu_row a1) (zu_same _ _ _ _) (fun j j0 => zu_ne (by omega)) rfl
theorem lw_timesLost (l : Launch) (g : zG) (ad : Int → Nat) {t d : Int} {M F : zMem} (h : zCR t d M F) (ht : t ≤ 50000000) (hd : d ≤ 9000) (hRM : zRM M) (x0 : Int) (hx0 : zR x0) : zLS l g ad yL_timesLost cL_timesLost 4 [(0, 9, 12, 27)] 9 1 6 [.ref (ad 0), .int (zI x0), .ref (ad 408)] yX12_timesLost cX12_timesLost 2 (some .int) 3 [.ref (ad 398), .int (zI x0)] M F (zAi t d) := by
  obtain ⟨V, sv, S, many, U, ep, fc, T, n, hK, hMo, hB, hO⟩ := id h
  have hV := hMo.1
  have hG := hB.1.2.1
  have hI := hG.1
  refine ⟨_, ch_timesLost l g ad M F x0 _ _ (ct_X11_timesLost l g ad M F V t x0 hx0 hK.1 hI hG.idd) (fun E M' F' q => by exact q.1.1), fun k M1 F1 hp hR1 => ?_⟩
  have hs : F1 = F ∧ (∀ i, i ≠ 408 → i ≠ 5 → M1 i = M i) ∧ (k, if k = 0 then M1 408 0 else 0) = zqT x0 5 V := by
    rcases hp with ⟨rfl, r, M0, hr, ⟨hc, rfl, rfl, rfl⟩, rfl⟩ | ⟨rfl, hc, rfl, rfl⟩
    · refine ⟨rfl, fun i a1 _ => zu_row a1, ?_⟩
      rw [if_pos rfl, zu_same]
      unfold zqT
      rw [if_neg (by have := (zpl_bd (x := x0) (V := V)).1; omega)]
    · refine ⟨rfl, fun i _ _ => rfl, ?_⟩
      obtain ⟨e9, hc⟩ := hc
      rw [if_neg (by decide : ¬ (1 : Int) = 0)]
      unfold zqT
      rw [if_pos (by have := (zpl_bd (x := x0) (V := V)).1; omega)]
  have hV1 : M1 399 = V := (hs.2.1 399 (by omega) (by omega)).trans hV
  refine ⟨_, ct_X12_timesLost l g ad M1 F1 x0 hx0 (by rw [hV1]; exact hI.2.2.1), fun v M2 F2 hm => ?_⟩
  obtain ⟨b, rfl, hb, e1, rfl, rfl⟩ := hm
  rw [hV1] at e1 ⊢
  exact lq_std h hs hb e1 (fun i a1 a2 a3 a4 => zu_row a1) (zu_same _ _ _ _) (fun j j0 => zu_ne (by omega)) rfl
theorem lw_beatsDrummed (l : Launch) (g : zG) (ad : Int → Nat) {t d : Int} {M F : zMem} (h : zCR t d M F) (ht : t ≤ 50000000) (hd : d ≤ 9000) (hRM : zRM M) (x0 : Int) (hx0 : zR x0) : zLS l g ad yL_beatsDrummed cL_beatsDrummed 4 [(0, 9, 12, 27)] 9 1 6 [.ref (ad 0), .int (zI x0), .ref (ad 408)] yX12_beatsDrummed cX12_beatsDrummed 2 (some .int) 3 [.ref (ad 398), .int (zI x0)] M F (zAi t d) := by
  obtain ⟨V, sv, S, many, U, ep, fc, T, n, hK, hMo, hB, hO⟩ := id h
  have hV := hMo.1
  have hG := hB.1.2.1
  have hI := hG.1
  refine ⟨_, ch_beatsDrummed l g ad M F x0 _ _ (ct_X11_beatsDrummed l g ad M F V t x0 hx0 hK.1 hI hG.idd) (fun E M' F' q => by exact q.1.1), fun k M1 F1 hp hR1 => ?_⟩
  have hs : F1 = F ∧ (∀ i, i ≠ 408 → i ≠ 5 → M1 i = M i) ∧ (k, if k = 0 then M1 408 0 else 0) = zqT x0 6 V := by
    rcases hp with ⟨rfl, r, M0, hr, ⟨hc, rfl, rfl, rfl⟩, rfl⟩ | ⟨rfl, hc, rfl, rfl⟩
    · refine ⟨rfl, fun i a1 _ => zu_row a1, ?_⟩
      rw [if_pos rfl, zu_same]
      unfold zqT
      rw [if_neg (by have := (zpl_bd (x := x0) (V := V)).1; omega)]
    · refine ⟨rfl, fun i _ _ => rfl, ?_⟩
      obtain ⟨e9, hc⟩ := hc
      rw [if_neg (by decide : ¬ (1 : Int) = 0)]
      unfold zqT
      rw [if_pos (by have := (zpl_bd (x := x0) (V := V)).1; omega)]
  have hV1 : M1 399 = V := (hs.2.1 399 (by omega) (by omega)).trans hV
  refine ⟨_, ct_X12_beatsDrummed l g ad M1 F1 x0 hx0 (by rw [hV1]; exact hI.2.2.1), fun v M2 F2 hm => ?_⟩
  obtain ⟨b, rfl, hb, e1, rfl, rfl⟩ := hm
  rw [hV1] at e1 ⊢
  exact lq_std h hs hb e1 (fun i a1 a2 a3 a4 => zu_row a1) (zu_same _ _ _ _) (fun j j0 => zu_ne (by omega)) rfl
theorem lw_isThump (l : Launch) (g : zG) (ad : Int → Nat) {t d : Int} {M F : zMem} (h : zCR t d M F) (ht : t ≤ 50000000) (hd : d ≤ 9000) (hRM : zRM M) (x0 : Int) (hx0 : zR x0) (x1 : Int) (hx1 : zR x1) : zLS l g ad yL_isThump cL_isThump 5 [(0, 17, 20, 21), (0, 17, 24, 19)] 9 2 12 [.ref (ad 0), .int (zI x0), .int (zI x1), .ref (ad 408)] yX12_isThump cX12_isThump 3 (some .boolean) 1 [.ref (ad 398), .int (zI x0), .int (zI x1)] M F (zAb t d) := by
  obtain ⟨V, sv, S, many, U, ep, fc, T, n, hK, hMo, hB, hO⟩ := id h
  have hV := hMo.1
  have hG := hB.1.2.1
  have hI := hG.1
  refine ⟨_, ch_isThump l g ad M F x0 x1 _ _ (ct_X11_isThump l g ad M F x0 hx0 x1 hx1) (fun E M' F' q => by rcases q.1 with q | q <;> first | exact Or.inl q.1 | exact Or.inr q.1) (fun r M' F' q => by rw [← q.2.1]; unfold zb; split <;> omega), fun k M1 F1 hp hR1 => ?_⟩
  have hs : F1 = F ∧ (∀ i, i ≠ 408 → i ≠ 5 → M1 i = M i) ∧ (k, if k = 0 then M1 408 0 else 0) = zqTh x0 x1 := by
    rcases hp with ⟨rfl, r, M0, hr, ⟨hc, rfl, rfl, rfl⟩, rfl⟩ | ⟨rfl, hc, rfl, rfl⟩ | ⟨rfl, hc, rfl, rfl⟩
    · refine ⟨rfl, fun i a1 _ => zu_row a1, ?_⟩
      rw [if_pos rfl, zu_same]
      unfold zqTh
      rw [if_neg (fun z => z hc.1), if_neg (fun z => z (by omega)), zbt_is (by omega) (by omega)]
    · refine ⟨rfl, fun i _ _ => rfl, ?_⟩
      rcases hc with ⟨e9, hc⟩ | ⟨e9, hc⟩
      · rw [if_neg (by decide : ¬ (1 : Int) = 0)]
        unfold zqTh
        rw [if_pos hc]
      · exact absurd e9 (by decide)
    · refine ⟨rfl, fun i _ _ => rfl, ?_⟩
      rcases hc with ⟨e9, hc⟩ | ⟨e9, hc⟩
      · exact absurd e9 (by decide)
      · rw [if_neg (by decide : ¬ (2 : Int) = 0)]
        unfold zqTh
        rw [if_neg (fun z => z hc.1), if_pos (by omega)]
  have hV1 : M1 399 = V := (hs.2.1 399 (by omega) (by omega)).trans hV
  refine ⟨_, ct_X12_isThump l g ad M1 F1 x0 hx0 x1 hx1, fun v M2 F2 hm => ?_⟩
  obtain ⟨b, rfl, hb, e1, rfl, rfl⟩ := hm
  exact lq_bool (lq_std h hs hb e1 (fun i a1 a2 a3 a4 => zu_row a1) (zu_same _ _ _ _) (fun j j0 => zu_ne (by omega)) rfl) hb (by rw [← e1]; unfold zqTh; (repeat' split) <;> first | exact Or.inl rfl | (show zb _ = 0 ∨ zb _ = 1; unfold zb; split <;> omega))
theorem lw_thumpsHeard (l : Launch) (g : zG) (ad : Int → Nat) {t d : Int} {M F : zMem} (h : zCR t d M F) (ht : t ≤ 50000000) (hd : d ≤ 9000) (hRM : zRM M) (x0 : Int) (hx0 : zR x0) (x1 : Int) (hx1 : zR x1) : zLS l g ad yL_thumpsHeard cL_thumpsHeard 5 [(0, 10, 13, 19), (0, 10, 17, 21)] 9 2 12 [.ref (ad 0), .int (zI x0), .int (zI x1), .ref (ad 408)] yX12_thumpsHeard cX12_thumpsHeard 3 (some .int) 2 [.ref (ad 398), .int (zI x0), .int (zI x1)] M F (zAi t d) := by
  obtain ⟨V, sv, S, many, U, ep, fc, T, n, hK, hMo, hB, hO⟩ := id h
  have hV := hMo.1
  have hG := hB.1.2.1
  have hI := hG.1
  refine ⟨_, ch_thumpsHeard l g ad M F x0 x1 _ _ (ct_X11_thumpsHeard l g ad M F V t x0 hx0 x1 hx1 hK.1 hI (by omega)) (fun E M' F' q => by rcases q.1 with q | q <;> first | exact Or.inl q.1 | exact Or.inr q.1), fun k M1 F1 hp hR1 => ?_⟩
  have hs : F1 = F ∧ (∀ i, i ≠ 408 → i ≠ 5 → M1 i = M i) ∧ (k, if k = 0 then M1 408 0 else 0) = zqHd x0 x1 V := by
    rcases hp with ⟨rfl, r, M0, hr, ⟨hc, rfl, rfl, rfl⟩, rfl⟩ | ⟨rfl, hc, rfl, rfl⟩ | ⟨rfl, hc, rfl, rfl⟩
    · refine ⟨rfl, fun i a1 _ => zu_row a1, ?_⟩
      rw [if_pos rfl, zu_same]
      unfold zqHd
      rw [if_neg (fun z => z hc.1), if_neg (fun z => z hc.2)]
    · refine ⟨rfl, fun i _ _ => rfl, ?_⟩
      rcases hc with ⟨e9, hc⟩ | ⟨e9, hc⟩
      · rw [if_neg (by decide : ¬ (1 : Int) = 0)]
        unfold zqHd
        rw [if_pos hc]
      · exact absurd e9 (by decide)
    · refine ⟨rfl, fun i _ _ => rfl, ?_⟩
      rcases hc with ⟨e9, hc⟩ | ⟨e9, hc⟩
      · exact absurd e9 (by decide)
      · rw [if_neg (by decide : ¬ (2 : Int) = 0)]
        unfold zqHd
        rw [if_neg (fun z => z hc.1), if_pos hc.2]
  have hV1 : M1 399 = V := (hs.2.1 399 (by omega) (by omega)).trans hV
  refine ⟨_, ct_X12_thumpsHeard l g ad M1 F1 x0 hx0 x1 hx1 (by rw [hV1]; exact hI.1) (by rw [hV1]; have := hI.2.2.2.1 4 (by decide) (by decide); omega), fun v M2 F2 hm => ?_⟩
  obtain ⟨b, rfl, hb, e1, rfl, rfl⟩ := hm
  rw [hV1] at e1 ⊢
  exact lq_std h hs hb e1 (fun i a1 a2 a3 a4 => zu_row a1) (zu_same _ _ _ _) (fun j j0 => zu_ne (by omega)) rfl
theorem lw_decode (l : Launch) (g : zG) (ad : Int → Nat) {t d : Int} {M F : zMem} (h : zCR t d M F) (ht : t ≤ 50000000) (hd : d ≤ 9000) (hRM : zRM M) (x0 : Int) (hx0 : zR x0) : zLS l g ad yL_decode cL_decode 4 [(0, 9, 12, 21), (0, 9, 15, 27)] 9 1 6 [.ref (ad 0), .int (zI x0), .ref (ad 408)] yX12_decode cX12_decode 2 (some .int) 1 [.ref (ad 398), .int (zI x0)] M F (zAi t d) := by
  obtain ⟨V, sv, S, many, U, ep, fc, T, n, hK, hMo, hB, hO⟩ := id h
  have hV := hMo.1
  have hG := hB.1.2.1
  have hI := hG.1
  refine ⟨_, ch_decode l g ad M F x0 _ _ (ct_X11_decode l g ad M F x0 hx0) (fun E M' F' q => by rcases q.1 with q | q <;> first | exact Or.inl q.1 | exact Or.inr q.1), fun k M1 F1 hp hR1 => ?_⟩
  have hs : F1 = F ∧ (∀ i, i ≠ 408 → i ≠ 5 → M1 i = M i) ∧ (k, if k = 0 then M1 408 0 else 0) = zqDe x0 := by
    rcases hp with ⟨rfl, r, M0, hr, ⟨hc, rfl, rfl, rfl⟩, rfl⟩ | ⟨rfl, hc, rfl, rfl⟩ | ⟨rfl, hc, rfl, rfl⟩
    · refine ⟨rfl, fun i a1 _ => zu_row a1, ?_⟩
      rw [if_pos rfl, zu_same]
      unfold zqDe
      rw [if_neg (fun z => z hc.1), if_neg (fun z => z ((zqDe_i hc.1).mp hc.2))]
    · refine ⟨rfl, fun i _ _ => rfl, ?_⟩
      rcases hc with ⟨e9, hc⟩ | ⟨e9, hc⟩
      · rw [if_neg (by decide : ¬ (1 : Int) = 0)]
        unfold zqDe
        rw [if_pos hc]
      · exact absurd e9 (by decide)
    · refine ⟨rfl, fun i _ _ => rfl, ?_⟩
      rcases hc with ⟨e9, hc⟩ | ⟨e9, hc⟩
      · exact absurd e9 (by decide)
      · rw [if_neg (by decide : ¬ (2 : Int) = 0)]
        unfold zqDe
        rw [if_neg (fun z => z hc.1), if_pos (fun z => hc.2 ((zqDe_i hc.1).mpr z))]
  have hV1 : M1 399 = V := (hs.2.1 399 (by omega) (by omega)).trans hV
  refine ⟨_, ct_X12_decode l g ad M1 F1 x0 hx0, fun v M2 F2 hm => ?_⟩
  obtain ⟨b, rfl, hb, e1, rfl, rfl⟩ := hm
  exact lq_std h hs hb e1 (fun i a1 a2 a3 a4 => zu_row a1) (zu_same _ _ _ _) (fun j j0 => zu_ne (by omega)) rfl
theorem lw_errorPosition (l : Launch) (g : zG) (ad : Int → Nat) {t d : Int} {M F : zMem} (h : zCR t d M F) (ht : t ≤ 50000000) (hd : d ≤ 9000) (hRM : zRM M) : zLS l g ad yL_errorPosition cL_errorPosition 3 [(0, 8, 11, 27)] 9 1 6 [.ref (ad 0), .ref (ad 408)] yX12_errorPosition cX12_errorPosition 1 (some .int) 2 [.ref (ad 398)] M F (zAi t d) := by
  obtain ⟨V, sv, S, many, U, ep, fc, T, n, hK, hMo, hB, hO⟩ := id h
  have hV := hMo.1
  have hG := hB.1.2.1
  have hI := hG.1
  refine ⟨_, ch_errorPosition l g ad M F  _ _ (ct_X11_errorPosition l g ad M F ) (fun E M' F' q => by exact q.1.1), fun k M1 F1 hp hR1 => ?_⟩
  have hs : F1 = F ∧ (∀ i, i ≠ 408 → i ≠ 5 → M1 i = M i) ∧ (k, if k = 0 then M1 408 0 else 0) = zqE ep := by
    rcases hp with ⟨rfl, r, M0, hr, ⟨hc, rfl, rfl, rfl⟩, rfl⟩ | ⟨rfl, hc, rfl, rfl⟩
    · refine ⟨rfl, fun i a1 _ => zu_row a1, ?_⟩
      rw [if_pos rfl, zu_same]
      unfold zqE
      rw [if_neg (by have := hMo.2.2.2.1.1.2; have := hK.2.2.2.2.1.1; omega), hK.2.2.2.2.1.1]
    · refine ⟨rfl, fun i _ _ => rfl, ?_⟩
      obtain ⟨e9, hc⟩ := hc
      rw [if_neg (by decide : ¬ (1 : Int) = 0)]
      unfold zqE
      rw [if_pos (by have := hK.2.2.2.2.1.1; omega)]
  have hV1 : M1 398 15 = ep := (congrFun (hs.2.1 398 (by omega) (by omega)) 15).trans hMo.2.2.2.1.1.1
  refine ⟨_, ct_X12_errorPosition l g ad M1 F1 , fun v M2 F2 hm => ?_⟩
  obtain ⟨b, rfl, hb, e1, rfl, rfl⟩ := hm
  rw [hV1] at e1 ⊢
  exact lq_std h hs hb e1 (fun i a1 a2 a3 a4 => zu_row a1) (zu_same _ _ _ _) (fun j j0 => zu_ne (by omega)) rfl
theorem lw_failedCommand (l : Launch) (g : zG) (ad : Int → Nat) {t d : Int} {M F : zMem} (h : zCR t d M F) (ht : t ≤ 50000000) (hd : d ≤ 9000) (hRM : zRM M) : zLS l g ad yL_failedCommand cL_failedCommand 3 [(0, 8, 11, 27)] 9 1 6 [.ref (ad 0), .ref (ad 408)] yX12_failedCommand cX12_failedCommand 1 (some .int) 2 [.ref (ad 398)] M F (zAi t d) := by
  obtain ⟨V, sv, S, many, U, ep, fc, T, n, hK, hMo, hB, hO⟩ := id h
  have hV := hMo.1
  have hG := hB.1.2.1
  have hI := hG.1
  refine ⟨_, ch_failedCommand l g ad M F  _ _ (ct_X11_failedCommand l g ad M F ) (fun E M' F' q => by exact q.1.1), fun k M1 F1 hp hR1 => ?_⟩
  have hs : F1 = F ∧ (∀ i, i ≠ 408 → i ≠ 5 → M1 i = M i) ∧ (k, if k = 0 then M1 408 0 else 0) = zqE fc := by
    rcases hp with ⟨rfl, r, M0, hr, ⟨hc, rfl, rfl, rfl⟩, rfl⟩ | ⟨rfl, hc, rfl, rfl⟩
    · refine ⟨rfl, fun i a1 _ => zu_row a1, ?_⟩
      rw [if_pos rfl, zu_same]
      unfold zqE
      rw [if_neg (by have := hMo.2.2.2.1.2.2; have := hK.2.2.2.2.1.2; omega), hK.2.2.2.2.1.2]
    · refine ⟨rfl, fun i _ _ => rfl, ?_⟩
      obtain ⟨e9, hc⟩ := hc
      rw [if_neg (by decide : ¬ (1 : Int) = 0)]
      unfold zqE
      rw [if_pos (by have := hK.2.2.2.2.1.2; omega)]
  have hV1 : M1 398 16 = fc := (congrFun (hs.2.1 398 (by omega) (by omega)) 16).trans hMo.2.2.2.1.2.1
  refine ⟨_, ct_X12_failedCommand l g ad M1 F1 , fun v M2 F2 hm => ?_⟩
  obtain ⟨b, rfl, hb, e1, rfl, rfl⟩ := hm
  rw [hV1] at e1 ⊢
  exact lq_std h hs hb e1 (fun i a1 a2 a3 a4 => zu_row a1) (zu_same _ _ _ _) (fun j j0 => zu_ne (by omega)) rfl
theorem lw_hareByReceived (l : Launch) (g : zG) (ad : Int → Nat) {t d : Int} {M F : zMem} (h : zCR t d M F) (ht : t ≤ 50000000) (hd : d ≤ 9000) (hRM : zRM M) (x0 : Int) (hx0 : zR x0) : zLS l g ad yL_hareByReceived cL_hareByReceived 4 [(0, 9, 12, 27)] 9 1 6 [.ref (ad 0), .int (zI x0), .ref (ad 408)] yX12_hareByReceived cX12_hareByReceived 8 (some .int) 2 [.ref (ad 398), .int (zI x0)] M F (zAi t d) := by
  obtain ⟨V, sv, S, many, U, ep, fc, T, n, hK, hMo, hB, hO⟩ := id h
  have hV := hMo.1
  have hG := hB.1.2.1
  have hI := hG.1
  refine ⟨_, ch_hareByReceived l g ad M F x0 _ _ (ct_X11_hareByReceived l g ad M F V t x0 hx0 hK.1 hI) (fun E M' F' q => by exact q.1.1), fun k M1 F1 hp hR1 => ?_⟩
  have hs : F1 = F ∧ (∀ i, i ≠ 408 → i ≠ 5 → M1 i = M i) ∧ (k, if k = 0 then M1 408 0 else 0) = zqHR x0 V := by
    rcases hp with ⟨rfl, r, M0, hr, ⟨q, hq, hk, rfl, rfl, rfl⟩, rfl⟩ | ⟨rfl, hc, rfl, rfl⟩
    · refine ⟨rfl, fun i a1 _ => zu_row a1, ?_⟩
      rw [if_pos rfl, zu_same, zqHR_yes hq hk]
    · refine ⟨rfl, fun i _ _ => rfl, ?_⟩
      rw [if_neg (by decide : ¬ (1 : Int) = 0), zqHR_no hc.2]
  have hV1 : M1 399 = V := (hs.2.1 399 (by omega) (by omega)).trans hV
  refine ⟨_, ct_X12_hareByReceived l g ad M1 F1 x0 hx0 (by rw [hV1]; exact hI.2.1) (fun a a0 a1 => by rw [hV1] at a1 ⊢; have := (hG.hares a a0 a1).2.2.1; omega), fun v M2 F2 hm => ?_⟩
  obtain ⟨b, rfl, hb, e1, rfl, rfl⟩ := hm
  rw [hV1] at e1 ⊢
  exact lq_std h hs hb e1 (fun i a1 a2 a3 a4 => zu_row a1) (zu_same _ _ _ _) (fun j j0 => zu_ne (by omega)) rfl
theorem lw_shortestDelayBySearch (l : Launch) (g : zG) (ad : Int → Nat) {t d : Int} {M F : zMem} (h : zCR t d M F) (ht : t ≤ 50000000) (hd : d ≤ 9000) (hRM : zRM M) (x0 : Int) (hx0 : zR x0) (x1 : Int) (hx1 : zR x1) : zLS l g ad yL_shortestDelayBySearch cL_shortestDelayBySearch 5 [(0, 10, 13, 19), (0, 10, 17, 27)] 9 3 18 [.ref (ad 0), .int (zI x0), .int (zI x1), .ref (ad 408)] yX12_shortestDelayBySearch cX12_shortestDelayBySearch 3 (some .int) 3 [.ref (ad 398), .int (zI x0), .int (zI x1)] M F (zAi t d) := by
  obtain ⟨V, sv, S, many, U, ep, fc, T, n, hK, hMo, hB, hO⟩ := id h
  have hV := hMo.1
  have hG := hB.1.2.1
  have hI := hG.1
  refine ⟨_, ch_shortestDelayBySearch l g ad M F x0 x1 _ _ (ct_X11_shortestDelayBySearch l g ad M F V t x0 hx0 x1 hx1 hK.1 hI hG.tn) (fun E M' F' q => by rcases q with q | ⟨w, q⟩ <;> first | exact Or.inl q.1 | exact Or.inr q.1), fun k M1 F1 hp hR1 => ?_⟩
  have hs : F1 = F ∧ (∀ i, i ≠ 408 → i ≠ 5 → M1 i = M i) ∧ (k, if k = 0 then M1 408 0 else 0) = zqSD x0 x1 V := by
    rcases hp with ⟨rfl, r, M0, hr, ⟨w, hc, rfl, rfl, rfl⟩, rfl⟩ | ⟨rfl, hc⟩ | ⟨rfl, hc⟩
    · refine ⟨rfl, fun i a1 a2 => (zu_row a1).trans (zrow_ne a2), ?_⟩
      rw [if_pos rfl, zu_same]
      unfold zqSD
      rw [if_neg (fun z => z hc.1), if_neg hc.2]
    · rcases hc with ⟨e9, hc, rfl, rfl⟩ | ⟨w, e9, hc, h9, rfl, rfl⟩
      · refine ⟨rfl, fun i _ _ => rfl, ?_⟩
        rw [if_neg (by decide : ¬ (1 : Int) = 0)]
        unfold zqSD
        rw [if_pos hc]
      · exact absurd e9 (by decide)
    · rcases hc with ⟨e9, hc, rfl, rfl⟩ | ⟨w, e9, hc, h9, rfl, rfl⟩
      · exact absurd e9 (by decide)
      · refine ⟨rfl, fun i _ a2 => zrow_ne a2, ?_⟩
        rw [if_neg (by decide : ¬ (2 : Int) = 0)]
        unfold zqSD
        rw [if_neg (fun z => z hc), if_pos h9]
  have hV1 : M1 399 = V := (hs.2.1 399 (by omega) (by omega)).trans hV
  refine ⟨_, ct_X12_shortestDelayBySearch l g ad M1 F1 x0 hx0 x1 hx1 (by rw [hV1]; exact hI.1) (by rw [hV1]; exact hI.2.2.2.2.1), fun v M2 F2 hm => ?_⟩
  obtain ⟨b, rfl, hb, w, e1, rfl, rfl⟩ := hm
  rw [hV1] at e1 ⊢
  exact lq_std h hs hb e1 (fun i a1 a2 a3 a4 => (zu_row a1).trans (zrow_ne a4)) (zu_same _ _ _ _) (fun j j0 => (zu_ne (by omega)).trans (congrFun (zrow_ne (by omega)) j)) rfl
