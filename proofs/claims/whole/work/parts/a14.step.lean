/-! the other questions -/
theorem lw_state (l : Launch) (g : zG) (ad : Int → Nat) {t d : Int} {M F : zMem} (h : zCR t d M F) (ht : t ≤ 50000000) (hd : d ≤ 9000) (hRM : zRM M) (x0 : Int) (hx0 : zR x0) : zLS l g ad yL_state cL_state 4 [(0, 9, 12, 27)] 9 1 6 [.ref (ad 0), .int (zI x0), .ref (ad 408)] yX12_state cX12_state 3 (some .char) 4 [.ref (ad 398), .int (zI x0)] M F (zAi t d) := by
  obtain ⟨V, sv, S, many, U, ep, fc, T, n, hK, hMo, hB, hO⟩ := id h
  have hV := hMo.1
  have hG := hB.1.2.1
  have hI := hG.1
  refine ⟨_, ch_state l g ad M F x0 _ _ (ct_X11_state l g ad M F V t x0 hx0 hK.1 hI hG.idd) (fun E M' F' q => by exact q.1.1), fun k M1 F1 hp hR1 => ?_⟩
  have hs : F1 = F ∧ (∀ i, i ≠ 408 → i ≠ 5 → M1 i = M i) ∧ (k, if k = 0 then M1 408 0 else 0) = zqT x0 4 V := by
    rcases hp with ⟨rfl, r, M0, hr, ⟨hc, rfl, rfl, rfl⟩, rfl⟩ | ⟨rfl, hc, rfl, rfl⟩
    · refine ⟨rfl, fun i a1 _ => zu_row a1, ?_⟩
      rw [if_pos rfl, zu_same]
      unfold zqT
      rw [if_neg (by have := (zpl_bd (x := x0) (V := V)).1; omega)]
    · refine ⟨rfl, fun i _ _ => rfl, ?_⟩
      obtain ⟨e9, hc⟩ := hc
      rw [if_neg (by decide : ¬ (1 : Int) = 0)]
      unfold zqT
      rw [if_pos (by have := (zpl_bd (x := x0) (V := V)).1; omega)]
  have hV1 : M1 399 = V := (hs.2.1 399 (by omega) (by omega)).trans hV
  refine ⟨_, ct_X12_state l g ad M1 F1 x0 hx0 (by rw [hV1]; exact hI.2.2.1) (fun p p0 p1 => by rw [hV1] at p1 ⊢; have := (hI.2.2.2.2.2.2.1 p p0 p1).2.2.2.2.1; omega), fun v M2 F2 hm => ?_⟩
  obtain ⟨b, rfl, hb, hm⟩ := hm
  rw [hV1] at hm
  rcases hm with ⟨h0, e1, rfl, rfl⟩ | ⟨h0, e1, rfl, rfl⟩
  · exact lq_st2 h hs hb (fun z => by omega) (fun i a1 a2 a3 a4 => zu_row a1) (zu_same _ _ _ _) (fun j j0 => zu_ne (by omega)) rfl
  · exact lq_std h hs hb e1 (fun i a1 a2 a3 a4 => zu_row a1) (zu_same _ _ _ _) (fun j j0 => zu_ne (by omega)) rfl
theorem lw_loudness (l : Launch) (g : zG) (ad : Int → Nat) {t d : Int} {M F : zMem} (h : zCR t d M F) (ht : t ≤ 50000000) (hd : d ≤ 9000) (hRM : zRM M) (x0 : Int) (hx0 : zR x0) (x1 : Int) (hx1 : zR x1) : zLS l g ad yL_loudness cL_loudness 5 [(0, 10, 13, 19)] 9 2 12 [.ref (ad 0), .int (zI x0), .int (zI x1), .ref (ad 409)] yX12_loudness cX12_loudness 3 (some .float) 3 [.ref (ad 398), .int (zI x0), .int (zI x1)] M F (zAf t d) := by
  obtain ⟨V, sv, S, many, U, ep, fc, T, n, hK, hMo, hB, hO⟩ := id h
  have hV := hMo.1
  have hG := hB.1.2.1
  have hI := hG.1
  have hok : (zisC V x0 ∧ zisC V x1) → zf64 (FP.f2d (zLd x0 x1 V)) := fun hc => zf_f2d (zLd_ok hI.2.2.2.2.1 ⟨hc.2.1, by have := hI.1.2; have := hc.2.2; omega⟩)
  refine ⟨_, ch_loudness l g ad M F x0 x1 _ _ (ct_X11_loudness l g ad M F V t x0 hx0 x1 hx1 hK.1 hI) (fun E M' F' q => q.1.1) (fun r M' F' q => by rw [← q.2.1]; exact zf_ok64 (hok q.1)), fun k M1 F1 hp hR1 => ?_⟩
  obtain ⟨hF, hm, hk⟩ : (∀ i, i ≠ 409 → F1 i = F i) ∧ (∀ i, M1 i = M i) ∧ ((zisC V x0 ∧ zisC V x1) ∧ k = 0 ∧ F1 409 0 = dbi (FP.f2d (zLd x0 x1 V)) ∨ ¬ (zisC V x0 ∧ zisC V x1) ∧ k = 1) := by
    rcases hp with ⟨rfl, r, F0, ⟨hc, rfl, rfl, rfl⟩, rfl⟩ | ⟨rfl, ⟨e9, hc⟩, rfl, rfl⟩
    · exact ⟨fun i a => zu_row a, fun _ => rfl, Or.inl ⟨hc, rfl, zu_same _ _ _ _⟩⟩
    · exact ⟨fun _ _ => rfl, fun _ => rfl, Or.inr ⟨hc, rfl⟩⟩
  have hV1 : M1 399 = V := (hm 399).trans hV
  refine ⟨_, ct_X12_loudness l g ad M1 F1 x0 hx0 x1 hx1 (by rw [hV1]; exact hI.1) (by rw [hV1]; exact hI.2.2.2.2.1), fun v M2 F2 hm2 => ?_⟩
  obtain ⟨x, rfl, h2⟩ := hm2
  rw [hV1] at h2
  rcases h2 with ⟨hc, rfl, rfl, rfl⟩ | ⟨w, hc, rfl, rfl, rfl⟩
  · rcases hk with ⟨hc', _⟩ | ⟨_, rfl⟩
    · exact absurd hc' hc
    · exact ⟨_, rfl, zu_same _ _ _ _, fun h0 => absurd h0 (by decide), lq_rel h hF (fun i _ _ _ => hm i) (fun i a1 _ _ _ => zu_row a1) (fun j j0 => zu_ne (by omega)) rfl⟩
  · rcases hk with ⟨_, rfl, h409⟩ | ⟨hc', _⟩
    · exact ⟨_, rfl, (congrFun (zrow_ne (by omega)) _).trans (zu_same _ _ _ _), fun _ => ⟨hok hc, h409⟩, lq_rel h hF (fun i _ _ _ => hm i) (fun i a1 _ _ a4 => (zrow_ne a4).trans (zu_row a1)) (fun j j0 => (congrFun (zrow_ne (by omega)) j).trans (zu_ne (by omega))) rfl⟩
    · exact absurd hc hc'
theorem lw_meanLoudness (l : Launch) (g : zG) (ad : Int → Nat) {t d : Int} {M F : zMem} (h : zCR t d M F) (ht : t ≤ 50000000) (hd : d ≤ 9000) (hRM : zRM M) (x0 : Int) (hx0 : zR x0) : zLS l g ad yL_meanLoudness cL_meanLoudness 4 [(0, 9, 12, 19)] 9 1 6 [.ref (ad 0), .int (zI x0), .ref (ad 409)] yX12_meanLoudness cX12_meanLoudness 4 (some .float) 3 [.ref (ad 398), .int (zI x0)] M F (zAf t d) := by
  obtain ⟨V, sv, S, many, U, ep, fc, T, n, hK, hMo, hB, hO⟩ := id h
  have hV := hMo.1
  have hG := hB.1.2.1
  have hI := hG.1
  have hok : zisC V x0 → zf64 (FP.f2d (zMl x0 V)) := fun hc => zf_f2d (zMl_ok hI.2.2.2.2.1 hc hI.1.2)
  refine ⟨_, ch_meanLoudness l g ad M F x0 _ _ (ct_X11_meanLoudness l g ad M F V t x0 hx0 hK.1 hI) (fun E M' F' q => q.1.1) (fun r M' F' q => by rw [← q.2.1]; exact zf_ok64 (hok q.1)), fun k M1 F1 hp hR1 => ?_⟩
  obtain ⟨hF, hm, hk⟩ : (∀ i, i ≠ 409 → F1 i = F i) ∧ (∀ i, M1 i = M i) ∧ (zisC V x0 ∧ k = 0 ∧ F1 409 0 = dbi (FP.f2d (zMl x0 V)) ∨ ¬ zisC V x0 ∧ k = 1) := by
    rcases hp with ⟨rfl, r, F0, ⟨hc, rfl, rfl, rfl⟩, rfl⟩ | ⟨rfl, ⟨e9, hc⟩, rfl, rfl⟩
    · exact ⟨fun i a => zu_row a, fun _ => rfl, Or.inl ⟨hc, rfl, zu_same _ _ _ _⟩⟩
    · exact ⟨fun _ _ => rfl, fun _ => rfl, Or.inr ⟨hc, rfl⟩⟩
  have hV1 : M1 399 = V := (hm 399).trans hV
  refine ⟨_, ct_X12_meanLoudness l g ad M1 F1 x0 hx0 (by rw [hV1]; exact hI.1) (by rw [hV1]; exact hI.2.2.2.2.1), fun v M2 F2 hm2 => ?_⟩
  obtain ⟨x, rfl, h2⟩ := hm2
  rw [hV1] at h2
  rcases h2 with ⟨hc, rfl, rfl, rfl⟩ | ⟨w, hc, rfl, rfl, rfl⟩
  · rcases hk with ⟨hc', _⟩ | ⟨_, rfl⟩
    · exact absurd hc' hc
    · exact ⟨_, rfl, zu_same _ _ _ _, fun h0 => absurd h0 (by decide), lq_rel h hF (fun i _ _ _ => hm i) (fun i a1 _ _ _ => zu_row a1) (fun j j0 => zu_ne (by omega)) rfl⟩
  · rcases hk with ⟨_, rfl, h409⟩ | ⟨hc', _⟩
    · exact ⟨_, rfl, (congrFun (zrow_ne (by omega)) _).trans (zu_same _ _ _ _), fun _ => ⟨hok hc, h409⟩, lq_rel h hF (fun i _ _ _ => hm i) (fun i a1 _ _ a4 => (zrow_ne a4).trans (zu_row a1)) (fun j j0 => (congrFun (zrow_ne (by omega)) j).trans (zu_ne (by omega))) rfl⟩
    · exact absurd hc hc'
theorem lw_loudnessBits (l : Launch) (g : zG) (ad : Int → Nat) {t d : Int} {M F : zMem} (h : zCR t d M F) (ht : t ≤ 50000000) (hd : d ≤ 9000) (hRM : zRM M) (x0 : Int) (hx0 : zR x0) (x1 : Int) (hx1 : zR x1) : zLS l g ad yL_loudnessBits cL_loudnessBits 5 [(0, 10, 13, 19)] 9 2 12 [.ref (ad 0), .int (zI x0), .int (zI x1), .ref (ad 408)] yX12_loudnessBits cX12_loudnessBits 4 (some .int) 4 [.ref (ad 398), .int (zI x0), .int (zI x1)] M F (zAi t d) := by
  obtain ⟨V, sv, S, many, U, ep, fc, T, n, hK, hMo, hB, hO⟩ := id h
  have hV := hMo.1
  have hG := hB.1.2.1
  have hI := hG.1
  refine ⟨_, ch_loudnessBits l g ad M F x0 x1 _ _ (ct_X11_loudnessBits l g ad M F V t x0 hx0 x1 hx1 hK.1 hI) (fun E M' F' q => q.1.1), fun k M1 F1 hp hR1 => ?_⟩
  have hs : F1 = F ∧ (∀ i, i ≠ 408 → i ≠ 5 → M1 i = M i) ∧ (k, if k = 0 then M1 408 0 else 0) = (if ¬ (zisC V x0 ∧ zisC V x1) then ((1, 0) : zQu) else (0, ((zLd x0 x1 V).toInt32.toInt))) := by
    rcases hp with ⟨rfl, r, M0, hr, ⟨hc, rfl, rfl, rfl⟩, rfl⟩ | ⟨rfl, ⟨e9, hc⟩, rfl, rfl⟩
    · refine ⟨rfl, fun i a1 _ => zu_row a1, ?_⟩
      rw [if_pos rfl, zu_same, if_neg (fun z => z hc)]
    · refine ⟨rfl, fun i _ _ => rfl, ?_⟩
      rw [if_neg (by decide : ¬ (1 : Int) = 0), if_pos hc]
  have hV1 : M1 399 = V := (hs.2.1 399 (by omega) (by omega)).trans hV
  refine ⟨_, ct_X12_loudnessBits l g ad M1 F1 x0 hx0 x1 hx1 (by rw [hV1]; exact hI.1) (by rw [hV1]; exact hI.2.2.2.2.1), fun v M2 F2 hm => ?_⟩
  obtain ⟨b, rfl, hb, hm⟩ := hm
  rw [hV1] at hm
  rcases hm with ⟨hc, e1, rfl, rfl⟩ | ⟨w, hc, e1, rfl, rfl⟩
  · rw [if_pos hc] at hs
    exact lq_std h hs hb e1 (fun i a1 a2 a3 a4 => zu_row a1) (zu_same _ _ _ _) (fun j j0 => zu_ne (by omega)) rfl
  · rw [if_neg (show ¬ ¬ (zisC V x0 ∧ zisC V x1) from fun z => z hc)] at hs
    exact lq_std h hs hb e1 (fun i a1 a2 a3 a4 => (zrow_ne a4).trans (zu_row a1)) ((congrFun (zrow_ne (by omega)) _).trans (zu_same _ _ _ _)) (fun j j0 => (congrFun (zrow_ne (by omega)) j).trans (zu_ne (by omega))) rfl
theorem lw_deliveryFraction (l : Launch) (g : zG) (ad : Int → Nat) {t d : Int} {M F : zMem} (h : zCR t d M F) (ht : t ≤ 50000000) (hd : d ≤ 9000) (hRM : zRM M) : zLS l g ad yL_deliveryFraction cL_deliveryFraction 3 [(0, 7, 10, 126)] 9 1 6 [.ref (ad 0), .ref (ad 409)] yX12_deliveryFraction cX12_deliveryFraction 2 (some .double) 1 [.ref (ad 398)] M F (zAd t d) := by
  obtain ⟨V, sv, S, many, U, ep, fc, T, n, hK, hMo, hB, hO⟩ := id h
  have hV := hMo.1
  have hG := hB.1.2.1
  have hI := hG.1
  have h67 := hI.2.2.2.1 6 (by decide) (by decide)
  have h77 := hI.2.2.2.1 7 (by decide) (by decide)
  refine ⟨_, ch_deliveryFraction l g ad M F _ _ (ct_X11_deliveryFraction l g ad M F V t hK.1 hI (by omega)) (fun E M' F' q => q.1.1), fun k M1 F1 hp hR1 => ?_⟩
  obtain ⟨hF, hm, hk⟩ : (∀ i, i ≠ 409 → F1 i = F i) ∧ (∀ i, M1 i = M i) ∧ (0 < V 6 + V 7 ∧ k = 0 ∧ F1 409 0 = dbi (zDf V) ∨ V 6 + V 7 ≤ 0 ∧ k = 1) := by
    rcases hp with ⟨rfl, r, F0, ⟨hc, rfl, rfl, rfl⟩, rfl⟩ | ⟨rfl, ⟨e9, hc⟩, rfl, rfl⟩
    · exact ⟨fun i a => zu_row a, fun _ => rfl, Or.inl ⟨by omega, rfl, zu_same _ _ _ _⟩⟩
    · exact ⟨fun _ _ => rfl, fun _ => rfl, Or.inr ⟨by omega, rfl⟩⟩
  have hV1 : M1 399 = V := (hm 399).trans hV
  refine ⟨_, ct_X12_deliveryFraction l g ad M1 F1 (by rw [hV1]; omega), fun v M2 F2 hm2 => ?_⟩
  obtain ⟨x, rfl, h2⟩ := hm2
  rw [hV1] at h2
  rcases h2 with ⟨hc, rfl, rfl, rfl⟩ | ⟨hc, rfl, rfl, rfl⟩
  · rcases hk with ⟨hc', _⟩ | ⟨_, rfl⟩
    · omega
    · exact ⟨_, rfl, zu_same _ _ _ _, fun h0 => absurd h0 (by decide), lq_rel h hF (fun i _ _ _ => hm i) (fun i a1 _ _ _ => zu_row a1) (fun j j0 => zu_ne (by omega)) rfl⟩
  · rcases hk with ⟨_, rfl, h409⟩ | ⟨hc', _⟩
    · exact ⟨_, rfl, zu_same _ _ _ _, fun _ => ⟨zDf_ok (by omega) (by omega), h409⟩, lq_rel h hF (fun i _ _ _ => hm i) (fun i a1 _ _ _ => zu_row a1) (fun j j0 => zu_ne (by omega)) rfl⟩
    · omega
set_option maxHeartbeats 4000000 in
set_option maxRecDepth 100000 in
theorem ct_X12_outputCharacter_w (l : Launch) (g : zG) (ad : Int → Nat) (zM0 zF0 : zMem) (x0 : Int) (hx0 : zR x0) (h10 : 0 ≤ zM0 398 10 ∧ zM0 398 10 ≤ 30) (ho : ∀ i, 0 ≤ i → i < zM0 398 10 → 0 ≤ zM0 405 i ∧ zM0 405 i < 65536) : zMt l yX12_outputCharacter cX12_outputCharacter 2 (some .char) 1 0 0 g 410 ad [.ref (ad 398), .int (zI x0)] zM0 zF0 (zPi (fun r M' F' => ((0 ≤ x0 ∧ x0 < zM0 398 10) ∧ (zM0 405 x0) = r ∧ (zu zM0 398 8 0) = M' ∧ zF0 = F') ∨ ((¬ (0 ≤ x0 ∧ x0 < zM0 398 10)) ∧ 32 = r ∧ (zu zM0 398 8 1) = M' ∧ zF0 = F'))) := by
  refine zMt.of "DrumWarrenModel" rfl (by decide +kernel) (Nat.le_of_ble_eq_true rfl) (fun {p e s m args below meth c ls} C0 Wd hl hret hlk hin => ?_)
  have hl : lv_has ls 2 [(0, .ref (ad 398)), (1, .int (zI x0))] := hl
  refine z_aload_n C0 hl 0 rfl dX12_outputCharacter_0 ?_
  refine z_iload_n C0 hl 1 rfl dX12_outputCharacter_1 ?_
  refine z_iconst C0 dX12_outputCharacter_2 ?_
  refine z_aload_n C0 hl 0 rfl dX12_outputCharacter_3 ?_
  refine zg_9_10 C0 Wd zN398 zK398 zk_1622 dX12_outputCharacter_4 ?_
  have hz1 : zR (zM0 398 10) := Wd.rm _ _
  refine z_iconst C0 dX12_outputCharacter_7 ?_
  refine z_isub C0 dX12_outputCharacter_8 ?_
  refine z_invSi (As := [.int (zI x0), .int (zI 0), .int (zI ((zM0 398 10) - 1))]) (rest := [.ref (ad 398)]) C0 Wd (ct_X12_in l g ad zM0 zF0 x0 hx0 0 (zR_mk (by decide) (by decide)) ((zM0 398 10) - 1) (by have q0 := hz1.1; have p0 := hz1.2; exact zR_mk (by omega) (by omega))) kv_X12_in zk_1707 rfl hl.1 rfl (Nat.le_of_ble_eq_true rfl) (by decide) (by decide) dX12_outputCharacter_9 (fun r2 zMr2 zFr2 H locs hrr2 hp Wd => ?_)
  obtain ⟨rfl, rfl, rfl⟩ := hp
  refine z_invVi (As := [.int (zI (zb (0 ≤ x0 ∧ x0 ≤ ((zM0 398 10) - 1))))]) (rest := []) C0 Wd (ct_X12_isThere l g ad zM0 zF0 (0 ≤ x0 ∧ x0 ≤ ((zM0 398 10) - 1))) kv_X12_isThere zN398 (zE_9 zK398) rfl zk_1754 rfl hl.1 rfl (Nat.le_of_ble_eq_true rfl) (by decide) (by decide) dX12_outputCharacter_12 (fun r4 zMr4 zFr4 H locs hrr4 hp Wd => ?_)
  obtain ⟨rfl, rfl, rfl⟩ := hp
  refine z_if_eq_b C0 (tgt := 27) dX12_outputCharacter_15 (by decide) (fun c6 => ?_) (fun c6 => ?_)
  · skip
    refine z_bipush C0 dX12_outputCharacter_27 (by decide) ?_
    exact z_cret C0 Wd hret hlk (by omega) (by omega) (Or.inr ⟨by omega, rfl, by rw [zb_t (by omega)], rfl⟩) dX12_outputCharacter_29
  · skip
    have hoo := ho x0 (by omega) (by omega)
    refine z_aload_n C0 hl 0 rfl dX12_outputCharacter_18 ?_
    refine zg_9_9 C0 Wd zN398 zK398 zk_1621 dX12_outputCharacter_19 ?_
    refine z_iload_n C0 hl 1 rfl dX12_outputCharacter_22 ?_
    refine z_cald C0 Wd zN405 zK405 zL405 (by omega) (by omega) (by decide) dX12_outputCharacter_23 ?_
    obtain ⟨he9, hz7⟩ : ((zu zM0 398 8 (zb (¬ (0 ≤ x0 ∧ x0 ≤ ((zM0 398 10) - 1))))) 405 x0) = (zM0 405 x0) ∧ zR (zM0 405 x0) := (fun q => ⟨q, q ▸ Wd.rm _ _⟩) (zu_ne (by omega))
    refine z_top (congrArg zI he9) ?_
    clear he9
    refine z_goto C0 (tgt := 29) dX12_outputCharacter_24 (by decide) ?_
    exact z_cret C0 Wd hret hlk (by omega) (by omega) (Or.inl ⟨by omega, rfl, by rw [zb_f (by omega)], rfl⟩) dX12_outputCharacter_29
theorem lw_outputCharacter (l : Launch) (g : zG) (ad : Int → Nat) {t d : Int} {M F : zMem} (h : zCR t d M F) (ht : t ≤ 50000000) (hd : d ≤ 9000) (hRM : zRM M) (x0 : Int) (hx0 : zR x0) : zLS l g ad yL_outputCharacter cL_outputCharacter 4 [(0, 9, 12, 19)] 9 1 6 [.ref (ad 0), .int (zI x0), .ref (ad 408)] yX12_outputCharacter cX12_outputCharacter 2 (some .char) 1 [.ref (ad 398), .int (zI x0)] M F (zAi t d) := by
  obtain ⟨V, sv, S, many, U, ep, fc, T, n, hK, hMo, hB, hO⟩ := id h
  have hV := hMo.1
  have hG := hB.1.2.1
  have hI := hG.1
  obtain ⟨⟨o1, o2, o3, o4⟩, o5⟩ := hO
  refine ⟨_, ch_outputCharacter l g ad M F x0 _ _ (ct_X11_outputCharacter l g ad M F x0 hx0 o1 ⟨o2, o5⟩ (fun j j0 j1 => (o4 j j0 j1).2)) (fun E M' F' q => q.1), fun k M1 F1 hp hR1 => ?_⟩
  have hs : F1 = F ∧ (∀ i, i ≠ 408 → i ≠ 5 → M1 i = M i) ∧ (k, if k = 0 then M1 408 0 else 0) = (if (0 ≤ x0 ∧ x0 < M 396 3) then ((0, M 397 x0) : zQu) else (1, 0)) := by
    rcases hp with ⟨rfl, r, M0, hr, ⟨hc, rfl, rfl, rfl⟩, rfl⟩ | ⟨rfl, e9, hc, rfl, rfl⟩
    · refine ⟨rfl, fun i a1 _ => zu_row a1, ?_⟩
      rw [if_pos rfl, zu_same, if_pos hc]
    · refine ⟨rfl, fun i _ _ => rfl, ?_⟩
      rw [if_neg (by decide : ¬ (1 : Int) = 0), if_neg hc]
  have e10 : M1 398 10 = M 398 10 := congrFun (hs.2.1 398 (by omega) (by omega)) 10
  have e405 : M1 405 = M 405 := hs.2.1 405 (by omega) (by omega)
  refine ⟨_, ct_X12_outputCharacter_w l g ad M1 F1 x0 hx0 (by rw [e10]; omega) (fun i i0 i1 => by rw [e10] at i1; rw [e405, ← (o4 i i0 (by omega)).1]; have := (o4 i i0 (by omega)).2; omega), fun v M2 F2 hm => ?_⟩
  obtain ⟨b, rfl, hb, hm⟩ := hm
  rw [e10, e405, ← o3] at hm
  rcases hm with ⟨hc, e1, rfl, rfl⟩ | ⟨hc, e1, rfl, rfl⟩
  · rw [if_pos hc] at hs
    exact lq_std h hs hb ((o4 x0 hc.1 hc.2).1.trans e1) (fun i a1 a2 a3 a4 => zu_row a1) (zu_same _ _ _ _) (fun j j0 => zu_ne (by omega)) rfl
  · rw [if_neg hc] at hs
    exact lq_st2 h hs hb (fun z => absurd z (by decide)) (fun i a1 a2 a3 a4 => zu_row a1) (zu_same _ _ _ _) (fun j j0 => zu_ne (by omega)) rfl
set_option maxRecDepth 100000 in
theorem lw_ticksUntilDelivery (l : Launch) (g : zG) (ad : Int → Nat) {t d : Int} {M F : zMem} (h : zCR t d M F) (ht : t ≤ 50000000) (hd : d ≤ 9000) (hRM : zRM M) (x0 : Int) (hx0 : zR x0) : zLS l g ad yL_ticksUntilDelivery cL_ticksUntilDelivery 4 [(0, 9, 12, 27), (0, 9, 15, 13), (0, 9, 18, 110)] 9 2 12 [.ref (ad 0), .int (zI x0), .ref (ad 408)] yX12_ticksUntilDelivery cX12_ticksUntilDelivery 6 (some .int) 6 [.ref (ad 398), .int (zI x0)] M F (zAi t d) := by
  obtain ⟨V, sv, S, many, U, ep, fc, T, n, hK, hMo, hB, hO⟩ := id h
  have hV := hMo.1
  have hG := hB.1.2.1
  have hI := hG.1
  have hpb := (zpl_bd (x := x0) (V := V)).1
  refine ⟨_, ch_ticksUntilDelivery l g ad M F x0 _ _ (ct_X11_ticksUntilDelivery l g ad M F V t x0 hx0 hK.1 hI hG.idd hG.2.1 hG.2.2 hK.2.1.1 (by omega)) (fun E M' F' q => by rcases q with q | q | q <;> first | exact Or.inl q.1 | exact Or.inr (Or.inl q.1) | exact Or.inr (Or.inr q.1)), fun k M1 F1 hp hR1 => ?_⟩
  have hs : F1 = F ∧ (∀ i, i ≠ 408 → ¬(32 ≤ i ∧ i < 63) → M1 i = M i) ∧ k = (zdUD x0 V).1 ∧ (k = 0 → M1 408 0 = (zdUD x0 V).2.1) := by
    unfold zdUD
    rcases hp with ⟨rfl, r, M0, hr, ⟨hc, hv, h0, ho, rfl⟩, rfl⟩ | ⟨rfl, hc⟩ | ⟨rfl, hc⟩ | ⟨rfl, hc⟩
    · refine ⟨rfl, fun i a1 a2 => (zu_row a1).trans (ho i (by omega)).1, ?_⟩
      rw [if_neg (by omega), if_neg hc.2, if_neg (by omega)]
      exact ⟨rfl, fun _ => (zu_same _ _ _ _).trans hv.symm⟩
    · rcases hc with ⟨e9, hc, rfl, rfl⟩ | ⟨e9, hc⟩ | ⟨e9, hc⟩
      · refine ⟨rfl, fun _ _ _ => rfl, ?_⟩
        rw [if_pos (by omega)]
        exact ⟨rfl, fun z => absurd z (by decide)⟩
      · exact absurd e9 (by decide)
      · exact absurd e9 (by decide)
    · rcases hc with ⟨e9, hc⟩ | ⟨e9, hc, h2, rfl, rfl⟩ | ⟨e9, hc⟩
      · exact absurd e9 (by decide)
      · refine ⟨rfl, fun _ _ _ => rfl, ?_⟩
        rw [if_neg (by omega), if_pos h2]
        exact ⟨rfl, fun z => absurd z (by decide)⟩
      · exact absurd e9 (by decide)
    · rcases hc with ⟨e9, hc⟩ | ⟨e9, hc⟩ | ⟨e9, hc, h2, ho, rfl⟩
      · exact absurd e9 (by decide)
      · exact absurd e9 (by decide)
      · refine ⟨rfl, fun i a1 a2 => (ho i (by omega)).1, ?_⟩
        rw [if_neg (by omega), if_neg hc.2, if_pos (by omega)]
        exact ⟨rfl, fun z => absurd z (by decide)⟩
  obtain ⟨hF, hm, hk, hv⟩ := hs
  have hV1 : M1 399 = V := (hm 399 (by omega) (by omega)).trans hV
  refine ⟨_, ct_X12_ticksUntilDelivery l g ad M1 F1 t x0 hx0 (by rw [hV1]; exact hI) (by rw [hV1]; exact hG.2.1) (by omega), fun v M2 F2 hm2 => ?_⟩
  obtain ⟨b, rfl, hb, hm2⟩ := hm2
  rw [hV1] at hm2
  rcases hm2 with ⟨hc, e1, rfl, rfl⟩ | ⟨w, hc, e1, rfl, rfl⟩
  · exact ⟨b, rfl, hb, (zu_same _ _ _ _).trans hk.symm, fun z => by omega, lq_rel h (fun i _ => congrFun hF i) (fun i a1 _ a3 => hm i a1 a3) (fun i a1 _ _ _ => zu_row a1) (fun j j0 => zu_ne (by omega)) rfl⟩
  · refine ⟨b, rfl, hb, (zu_same _ _ _ _).trans hk.symm, fun z => ?_, lq_rel h (fun i _ => congrFun hF i) (fun i a1 _ a3 => hm i a1 a3) (fun i a1 a2 a3 a4 => ?_) (fun j j0 => ?_) rfl⟩
    · rw [zu_row (by omega), zrow_ne (by omega), zrow_ne (by omega), zrow_ne (by omega), zu_row (by omega), hv z, e1]
    · rw [zu_row a1, zrow_ne a4]
      by_cases e9 : i = 399
      · subst e9
        rw [hV1]
        show (if (399 : Int) = 399 then V else _) = V
        rw [if_pos rfl]
      · rw [zrow_ne e9, zrow_ne a3, zu_row a1]
    · rw [zu_ne (by omega), zrow_ne (by omega), zrow_ne (by omega), zrow_ne (by omega), zu_ne (by omega)]
