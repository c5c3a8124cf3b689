/-! restore, the texts, execute -/
theorem zwM_row {p : Int} {V : Int → Int} {M : zMem} {i : Int} (h1 : i ≠ 396) (h2 : i ≠ 397) : zwM p V M i = M i := funext fun j => by
  unfold zwM
  rw [zapR_row h1 h2, zapC_row h1 h2, zapI_row h1 h2, zapC_row h1 h2, zapI_row h1 h2, zapC_row h1 h2, zapI_row h1 h2, zapC_row h1 h2, zapI_row h1 h2, zst0_row h1 h2]
theorem zwM_n {p t : Int} {V : Int → Int} {M : zMem} (hI : zIV t V) (h0 : 0 ≤ p) (h1 : p < V 2) (hd : V (96 + 47 * p + 0) < 10000) : zwM p V M 396 3 ≤ 16 := by
  have hm := hI.2.2.2.2.2.2.1 p h0 h1
  have hb1 := hI.2.1.2
  unfold zwM
  rw [zapR_n, zapC_n, zapI_n, zapC_n, zapI_n, zapC_n, zapI_n, zapC_n, zapI_n, zst0_n]
  have q0 := (zlen_h (V (96 + 47 * p + 0))).2.2.2 hd
  have q1 := (zlen_h (V (96 + 47 * p + 1))).1 (by omega)
  have q2 := (zlen_h (V (96 + 47 * p + 2))).1 (by omega)
  have q3 := (zlen_h (V (96 + 47 * p + 3))).2.1 (by omega)
  omega
theorem zwK_row {p x : Int} {r : Int → Int} {K : zMem} {i : Int} (h1 : i ≠ 398) (h2 : i ≠ 405) : zwK p x r K i = K i := funext fun j => by
  unfold zwK
  rw [zsR_row h1 h2, zsay_row h1 h2, zsN_row h1 h2, zsay_row h1 h2, zsN_row h1 h2, zsay_row h1 h2, zsN_row h1 h2, zsay_row h1 h2, zsN_row h1 h2, zu_row h1]
theorem zwK_398 {p x : Int} {r : Int → Int} {K : zMem} {j : Int} (h : j ≠ 10) : zwK p x r K 398 j = K 398 j := by
  unfold zwK
  rw [zsR_398 h, zsay_398 h, zsN_398 h, zsay_398 h, zsN_398 h, zsay_398 h, zsN_398 h, zsay_398 h, zsN_398 h, zu_ne (by omega)]
/-- class and model after a text is written -/
theorem lo_std {t d : Int} {M F M1 M2 : zMem} (h : zCR t d M F) (h1 : ∀ i, i ≠ 396 → i ≠ 397 → i ≠ 408 → M1 i = M i) (h2 : ∀ i, i ≠ 398 → i ≠ 405 → M2 i = M1 i) (h8 : ∀ j, j ≠ 8 → j ≠ 10 → M2 398 j = M1 398 j) (hT : zTE M2 M2) (hn : M2 396 3 ≤ 16) : zCR t d M2 F := by
  obtain ⟨V, sv, S, many, U, ep, fc, T, n, a, b, c, e⟩ := h
  refine ⟨V, sv, S, many, U, ep, fc, T, n, zCK_in a c.1.2.1 (fun q => (c.2.1.2 q).1) (fun i i0 i1 i2 i3 => ⟨(h2 i (by omega) (by omega)).trans (h1 i (by omega) (by omega) (by omega)), rfl⟩) a.2.1.1, zCM_in b (fun i i0 i1 i2 i3 i4 i5 i6 => (h2 i (by omega) i5).trans (h1 i (by omega) (by omega) (by omega))) (fun j j0 j1 j2 j3 j4 => (h8 j j0 j1).trans (congrFun (h1 398 (by omega) (by omega) (by omega)) j)), c, hT, hn⟩
theorem pd_C {k a b c t : Int} {V : Int → Int} (hG : zGd t V) : (zdC k a b c V).2.2 3 ≤ V 3 + 1 := by
  unfold zdC
  split
  · exact pd_AT.2.2.2
  · split
    · exact (pd_AH hG.1.2.1.1).2.2.2
    · split
      · exact pd_Say.2.2.2
      · split
        · exact pd_Li.2.2.2
        · split
          · exact pd_Li.2.2.2
          · split
            · exact pd_Mv.2.2.2
            · split
              · exact (pd_PT hG).2.2.2
              · exact pd_AC.2.2.2
theorem zVi_3 {T : Int → Int} {n t : Int} {V : Int → Int} (hG : zGd t V) (ht : 0 ≤ t) : ∀ i : Nat, zVi T n V i 3 ≤ V 3 + (i : Int)
  | 0 => by show V 3 ≤ V 3 + ((0 : Nat) : Int); omega
  | i + 1 => by
    have h1 := zVi_3 (T := T) (n := n) hG ht i
    have h2 := pd_C (k := zkn T n (zAt T n i)) (a := zka T n (zAt T n i) 0) (b := zka T n (zAt T n i) 1) (c := zka T n (zAt T n i) 2) (zG_Vi (T := T) (n := n) hG ht i)
    show (zdX T n i (zVi T n V i)).2.2 3 ≤ _
    unfold zdX
    omega
theorem zer_ge {T : Int → Int} {n : Int} {m : Nat} : -1 ≤ zer T n m := by
  unfold zer
  split
  · decide
  · unfold zps
    split <;> omega
theorem zok_one {T : Int → Int} {n : Int} {V : Int → Int} {f f' : Nat} (h1 : ∀ i, i < f → zok T n V i) (h2 : ¬ zok T n V f) (h3 : ∀ i, i < f' → zok T n V i) (h4 : ¬ zok T n V f') : f = f' := by
  rcases Nat.lt_trichotomy f f' with h | h | h
  · exact absurd (h3 f h) h2
  · exact h
  · exact absurd (h1 f' h) h4
theorem lw_restore (l : Launch) (g : zG) (ad : Int → Nat) {t d : Int} {M F : zMem} (h : zCR t d M F) (ht : t ≤ 50000000) (hd : d ≤ 9000) (hRM : zRM M) : zLS l g ad yL_restore cL_restore 3 [(0, 8, 11, 13)] 9 1 6 [.ref (ad 0), .ref (ad 408)] yX12_restore cX12_restore 1 (some .int) 1 [.ref (ad 398)] M F (zAi t d) := by
  obtain ⟨V, sv, S, many, U, ep, fc, T, n, hK, hMo, hB, hO⟩ := id h
  have hV := hMo.1
  have hG := hB.1.2.1
  have hI := hG.1
  have hmb := hK.2.2.2.1.2.2.1
  have e06 := hK.2.2.1.1
  obtain ⟨m1, ⟨m2, m3⟩, ⟨m4, m5⟩, ⟨⟨m6, g6⟩, m7, g7⟩, m8, m9⟩ := hMo
  rcases hB.2.1.1 with hs | hs
  · refine ⟨_, ch_restore l g ad M F _ _ (ct_X11_restore l g ad M F V t t many U V hK.1 hG hK.2.2.2.1 (fun z => absurd (e06.trans hs) z) hI) (fun E M' F' q => q.1), fun k M1 F1 hp hR1 => ?_⟩
    obtain ⟨rfl, rfl, rfl⟩ : k = 1 ∧ M1 = M ∧ F1 = F := by
      rcases hp with ⟨rfl, r, M0, hr, ⟨z, _⟩, _⟩ | ⟨rfl, e9, _, rfl, rfl⟩
      · exact absurd (e06.trans hs) z
      · exact ⟨rfl, rfl, rfl⟩
    refine ⟨_, ct_X12_restore l g ad M1 F1 (Or.inl (m2.trans hs)), fun v M2 F2 hm => ?_⟩
    obtain ⟨b, rfl, hb, hm⟩ := hm
    rcases hm with ⟨_, e1, rfl, rfl⟩ | ⟨z, _⟩
    · exact ⟨b, rfl, hb, zu_same _ _ _ _, fun z => absurd z (by decide), lq_rel h (fun _ _ => rfl) (fun _ _ _ _ => rfl) (fun i a1 _ _ _ => zu_row a1) (fun j j0 => zu_ne (by omega)) rfl⟩
    · exact absurd (m2.trans hs) z
  · have hSg := hB.2.1.2 hs
    refine ⟨_, ch_restore l g ad M F _ _ (ct_X11_restore l g ad M F V t t many U S hK.1 hG hK.2.2.2.1 (fun _ => hK.2.2.1.2 hs) hSg.1.1) (fun E M' F' q => q.1), fun k M1 F1 hp hR1 => ?_⟩
    obtain ⟨rfl, M0, a1, a2, a3, rfl⟩ : k = 0 ∧ ∃ M0, zRS 1 S M0 F1 ∧ zHi t 0 U M0 F1 ∧ zFr M F M0 F1 ∧ M1 = zu M0 408 0 (S 1) := by
      rcases hp with ⟨rfl, r, M0, hr, ⟨_, rfl, a1, a2, a3⟩, rfl⟩ | ⟨rfl, e9, z, _, _⟩
      · exact ⟨rfl, M0, a1, a2, a3, rfl⟩
      · omega
    have row : ∀ i, 398 ≤ i → i ≠ 408 → zu M0 408 0 (S 1) i = M i := fun i i0 i1 => (zu_row i1).trans (a3 i (by omega) (by omega)).1
    have e4 : zu M0 408 0 (S 1) 398 4 = 1 := (congrFun (row 398 (by omega) (by omega)) 4).trans (m2.trans hs)
    have e402 : zu M0 408 0 (S 1) 402 = S := (row 402 (by omega) (by omega)).trans (m3 hs)
    refine ⟨_, ct_X12_restore l g ad _ F1 (Or.inr e4), fun v M2 F2 hm => ?_⟩
    obtain ⟨b, rfl, hb, hm⟩ := hm
    rw [e402] at hm
    rcases hm with ⟨z, _⟩ | ⟨_, e1, rfl, rfl⟩
    · omega
    obtain ⟨k1, ⟨k2a, k2b⟩, ⟨k3, k4⟩, k5, k6, b1, b2, b3⟩ := hK
    have er : ∀ i, i ≠ 398 → i ≠ 399 → i ≠ 408 → zu (zrow (zu (zu M0 408 0 (S 1)) 398 8 0) 399 S) 398 6 0 i = M0 i := fun i i0 i1 i2 => by rw [zu_row i0, zrow_ne i1, zu_row i0, zu_row i2]
    have eM : ∀ i, i ≠ 398 → i ≠ 399 → i ≠ 408 → ¬(1 ≤ i ∧ i < 32) → ¬(94 ≤ i ∧ i < 375) → zu (zrow (zu (zu M0 408 0 (S 1)) 398 8 0) 399 S) 398 6 0 i = M i ∧ F1 i = F i := fun i i0 i1 i2 i3 i4 => ⟨(er i i0 i1 i2).trans (a3 i i3 i4).1, (a3 i i3 i4).2⟩
    have e8 : ∀ j, j ≠ 6 → j ≠ 8 → zu (zrow (zu (zu M0 408 0 (S 1)) 398 8 0) 399 S) 398 6 0 398 j = M 398 j := fun j j0 j1 => by
      rw [zu_ne (by omega), zrow_ne (by omega), zu_ne (by omega), zu_row (by omega), (a3 398 (by omega) (by omega)).1]
    refine ⟨b, rfl, hb, ?_, fun _ => ?_, S, sv, S, 0, U, ep, fc, T, n, ⟨zRS_in a1 hSg.1.b1 hSg.1.b2 (fun i i0 i1 => ⟨er i (by omega) (by omega) (by omega), rfl⟩), ⟨zRp_in k2a (eM (32 + 6) (by omega) (by omega) (by omega) (by omega) (by omega)).2, zRp_in k2b (eM (63 + 6) (by omega) (by omega) (by omega) (by omega) (by omega)).2⟩, ⟨?_, fun z => zRS_in (k4 z) hSg.1.b1 hSg.1.b2 (fun i i0 i1 => eM i (by omega) (by omega) (by omega) (by omega) (by omega))⟩, zHi_in a2 (fun i i0 i1 => ⟨er i (by omega) (by omega) (by omega), rfl⟩), ⟨?_, ?_⟩, ?_, ?_, b3⟩, ⟨?_, ⟨(e8 4 (by omega) (by omega)).trans m2, fun z => ?_⟩, ⟨zu_same _ _ _ _, fun k j k0 k1 j0 j1 => by omega⟩, ⟨⟨(e8 15 (by omega) (by omega)).trans m6, g6⟩, (e8 16 (by omega) (by omega)).trans m7, g7⟩, ?_, (e8 12 (by omega) (by omega)).trans m9⟩, ⟨⟨hB.1.1, hSg⟩, hB.2.1, fun k k0 k1 => by omega, hB.2.2.2⟩, zCO_in hO (eM 396 (by omega) (by omega) (by omega) (by omega) (by omega)).1 (eM 397 (by omega) (by omega) (by omega) (by omega) (by omega)).1 (e8 10 (by omega) (by omega)) (eM 405 (by omega) (by omega) (by omega) (by omega) (by omega)).1⟩
    · rw [zu_ne (by omega), zrow_ne (by omega), zu_same]
    · rw [zu_row (by omega), zrow_ne (by omega), zu_row (by omega), zu_same, e1]
    · rw [(eM 0 (by omega) (by omega) (by omega) (by omega) (by omega)).1]; exact k3
    · rw [(eM 0 (by omega) (by omega) (by omega) (by omega) (by omega)).1]; exact k6.1
    · rw [(eM 0 (by omega) (by omega) (by omega) (by omega) (by omega)).1]; exact k6.2
    · rw [(eM 376 (by omega) (by omega) (by omega) (by omega) (by omega)).1]; exact b1
    · rw [(eM 375 (by omega) (by omega) (by omega) (by omega) (by omega)).1]; exact b2
    · rw [zu_row (by omega)]; exact if_pos rfl
    · rw [(eM 402 (by omega) (by omega) (by omega) (by omega) (by omega)).1]; exact m3 z
    · rw [(eM 406 (by omega) (by omega) (by omega) (by omega) (by omega)).1]; exact m8
theorem lw_writeMessage (l : Launch) (g : zG) (ad : Int → Nat) {t d : Int} {M F : zMem} (h : zCR t d M F) (ht : t ≤ 50000000) (hd : d ≤ 9000) (hRM : zRM M) (x0 : Int) (hx0 : zR x0) : zLS l g ad yL_writeMessage cL_writeMessage 4 [(0, 9, 12, 27)] 9 1 6 [.ref (ad 0), .int (zI x0), .ref (ad 408)] yX12_writeMessage cX12_writeMessage 4 (some .int) 6 [.ref (ad 398), .int (zI x0)] M F (zAi t d) := by
  obtain ⟨V, sv, S, many, U, ep, fc, T, n, hK, hMo, hB, hO⟩ := id h
  have hV := hMo.1
  have hG := hB.1.2.1
  have hI := hG.1
  have hpb := zpl_bd (x := x0) (V := V)
  have hD : ∀ q, 0 ≤ q → q < V 2 → V (96 + 47 * q + 0) < 10000 := fun q q0 q1 => by have := (hI.2.2.2.2.2.2.1 q q0 q1).1; have := hB.1.2.2; omega
  refine ⟨_, ch_writeMessage l g ad M F x0 _ _ (ct_X11_writeMessage l g ad M F V t x0 hx0 hK.1 hI hG.idd hO.1.1 ⟨hO.1.2.1, hO.2⟩ hD) (fun E M' F' q => q.1), fun k M1 F1 hp hR1 => ?_⟩
  have hs : F1 = F ∧ ((k = 0 ∧ 0 ≤ zpl x0 V ∧ M1 = zu (zwM (zpl x0 V) V M) 408 0 (zwM (zpl x0 V) V M 396 3)) ∨ (k = 1 ∧ zpl x0 V < 0 ∧ M1 = M)) := by
    rcases hp with ⟨rfl, r, M0, hr, ⟨hc, rfl, rfl, rfl⟩, rfl⟩ | ⟨rfl, e9, hc, rfl, rfl⟩
    · exact ⟨rfl, Or.inl ⟨rfl, by omega, rfl⟩⟩
    · exact ⟨rfl, Or.inr ⟨rfl, by omega, rfl⟩⟩
  obtain ⟨rfl, hk⟩ := hs
  have row : ∀ i, i ≠ 396 → i ≠ 397 → i ≠ 408 → M1 i = M i := fun i i0 i1 i2 => by
    rcases hk with ⟨_, _, rfl⟩ | ⟨_, _, rfl⟩
    · rw [zu_row i2, zwM_row i0 i1]
    · rfl
  have hV1 : M1 399 = V := (row 399 (by omega) (by omega) (by omega)).trans hV
  refine ⟨_, ct_X12_writeMessage l g ad M1 F1 t x0 hx0 (by rw [hV1]; exact hI) (by rw [hV1]; exact hD), fun v M2 F2 hm => ?_⟩
  obtain ⟨b, rfl, hb, hm⟩ := hm
  rw [hV1] at hm
  have epl : zlast (fun q => V (96 + 47 * q + 0) = x0) (V 2).toNat = zpl x0 V := rfl
  rw [epl] at hm
  rcases hm with ⟨hn, e1, rfl, rfl⟩ | ⟨hn, e1, rfl, rfl⟩
  · rcases hk with ⟨_, z, _⟩ | ⟨rfl, _, rfl⟩
    · exact absurd z hn
    · exact ⟨b, rfl, hb, zu_same _ _ _ _, fun z => absurd z (by decide), lq_rel h (fun _ _ => rfl) (fun _ _ _ _ => rfl) (fun i a1 _ _ _ => zu_row a1) (fun j j0 => zu_ne (by omega)) rfl⟩
  · rcases hk with ⟨rfl, _, rfl⟩ | ⟨_, z, _⟩
    · have hlt : zpl x0 V < V 2 := hpb.2 hI.2.2.1.1
      have hat : V (96 + 47 * zpl x0 V + 0) = x0 := zlast_at9 (P := fun q => V (96 + 47 * q + 0) = x0) (V 2).toNat hn
      have hdx := hD _ hn hlt
      have hTE := zTE_M (p := zpl x0 V) (x := x0) (M := M) (K := zu (zu (zwM (zpl x0 V) V M) 408 0 (zwM (zpl x0 V) V M 396 3)) 398 8 0) hO.1.1 hI hn hlt hat (by rw [← hat]; exact hdx)
      have r2 : ∀ i, i ≠ 398 → i ≠ 405 → i ≠ 408 → zwK (zpl x0 V) x0 V (zu (zu (zwM (zpl x0 V) V M) 408 0 (zwM (zpl x0 V) V M 396 3)) 398 8 0) i = zwM (zpl x0 V) V M i := fun i i0 i1 i2 => by rw [zwK_row i0 i1, zu_row i0, zu_row i2]
      refine ⟨b, rfl, hb, ?_, fun _ => ?_, lo_std h (M1 := zu (zwM (zpl x0 V) V M) 408 0 (zwM (zpl x0 V) V M 396 3)) row (fun i i0 i1 => by rw [zwK_row i0 i1, zu_row i0]) (fun j j0 j1 => by rw [zwK_398 j1, zu_ne (by omega)]) (zTE_in hTE (r2 396 (by omega) (by omega) (by omega)) (r2 397 (by omega) (by omega) (by omega)) rfl rfl) ?_⟩
      · rw [zwK_398 (by omega), zu_same]
      · rw [zwK_row (by omega) (by omega), zu_row (by omega), zu_same, ← e1]
        exact hTE.2.2.1
      · rw [r2 396 (by omega) (by omega) (by omega)]
        exact zwM_n hI hn hlt hdx
    · omega
theorem lw_writeCode (l : Launch) (g : zG) (ad : Int → Nat) {t d : Int} {M F : zMem} (h : zCR t d M F) (ht : t ≤ 50000000) (hd : d ≤ 9000) (hRM : zRM M) (x0 : Int) (hx0 : zR x0) : zLS l g ad yL_writeCode cL_writeCode 4 [(0, 9, 12, 21)] 9 1 6 [.ref (ad 0), .int (zI x0), .ref (ad 408)] yX12_writeCode cX12_writeCode 3 (some .int) 3 [.ref (ad 398), .int (zI x0)] M F (zAi t d) := by
  obtain ⟨V, sv, S, many, U, ep, fc, T, n, hK, hMo, hB, hO⟩ := id h
  have hV := hMo.1
  have hG := hB.1.2.1
  have hI := hG.1
  refine ⟨_, ch_writeCode l g ad M F x0 _ _ (ct_X11_writeCode l g ad M F x0 hx0 hO.1.1 ⟨hO.1.2.1, hO.2⟩) (fun E M' F' q => q.1), fun k M1 F1 hp hR1 => ?_⟩
  have hs : F1 = F ∧ ((k = 0 ∧ (0 ≤ x0 ∧ x0 ≤ 15) ∧ M1 = zu (zcC x0 5 M) 408 0 5) ∨ (k = 1 ∧ ¬ (0 ≤ x0 ∧ x0 ≤ 15) ∧ M1 = M)) := by
    rcases hp with ⟨rfl, r, M0, hr, ⟨hc, rfl, rfl, rfl⟩, rfl⟩ | ⟨rfl, e9, hc, rfl, rfl⟩
    · exact ⟨rfl, Or.inl ⟨rfl, hc, rfl⟩⟩
    · exact ⟨rfl, Or.inr ⟨rfl, hc, rfl⟩⟩
  obtain ⟨rfl, hk⟩ := hs
  refine ⟨_, ct_X12_writeCode l g ad M1 F1 x0 hx0, fun v M2 F2 hm => ?_⟩
  obtain ⟨b, rfl, hb, hm⟩ := hm
  rcases hm with ⟨hn, e1, rfl, rfl⟩ | ⟨hn, e1, rfl, rfl⟩
  · rcases hk with ⟨_, z, _⟩ | ⟨rfl, _, rfl⟩
    · exact absurd z hn
    · exact ⟨b, rfl, hb, by rw [zu_same]; exact zb_t hn, fun z => absurd z (by decide), lq_rel h (fun _ _ => rfl) (fun _ _ _ _ => rfl) (fun i a1 _ _ _ => zu_row a1) (fun j j0 => zu_ne (by omega)) rfl⟩
  · rcases hk with ⟨rfl, _, rfl⟩ | ⟨_, z, _⟩
    · have hTE := zTE_zc (x := x0) (M := M) (K := zu (zu (zcC x0 5 M) 408 0 5) 398 8 (zb (¬ (0 ≤ x0 ∧ x0 ≤ 15)))) 5 hO.1.1
      have r2 : ∀ i, i ≠ 398 → i ≠ 405 → i ≠ 408 → zsC x0 5 (zu (zu (zcC x0 5 M) 408 0 5) 398 8 (zb (¬ (0 ≤ x0 ∧ x0 ≤ 15)))) i = zcC x0 5 M i := fun i i0 i1 i2 => funext fun j => by rw [zsC_row i0 i1, zu_row i0, zu_row i2]
      refine ⟨b, rfl, hb, ?_, fun _ => ?_, lo_std h (M1 := zu (zcC x0 5 M) 408 0 5) (fun i i0 i1 i2 => by rw [zu_row i2]; exact funext fun j => zcC_row i0 i1 j) (fun i i0 i1 => by rw [← zu_row (M := zu (zcC x0 5 M) 408 0 5) (j := 8) (v := zb (¬ (0 ≤ x0 ∧ x0 ≤ 15))) i0]; exact funext fun j => zsC_row i0 i1 j) (fun j j0 j1 => by rw [zsC_398 j1, zu_ne (by omega)]) (zTE_in hTE (r2 396 (by omega) (by omega) (by omega)) (r2 397 (by omega) (by omega) (by omega)) rfl rfl) ?_⟩
      · rw [zsC_398 (by omega), zu_same]
        exact zb_f (fun z => z hn)
      · rw [zsC_row (by omega) (by omega), zu_row (by omega), zu_same, e1]
      · rw [r2 396 (by omega) (by omega) (by omega), zcC_n]
        decide
    · exact absurd hn z
theorem lw_execute (l : Launch) (g : zG) (ad : Int → Nat) {t d : Int} {M F : zMem} (h : zCR t d M F) (ht : t ≤ 50000000) (hd : d ≤ 9000) (hRM : zRM M) : zLS l g ad yL_execute cL_execute 3 [(0, 8, 11, 21), (0, 8, 14, 110)] 11 1 6 [.ref (ad 0), .ref (ad 408)] yX12_execute cX12_execute 2 (some .int) 10 [.ref (ad 398)] M F (zAi (t + 7000) (d + 9)) := by
  obtain ⟨V, sv, S, many, U, ep, fc, T, n, hK, hMo, hB, hO⟩ := id h
  have hV := hMo.1
  have hG := hB.1.2.1
  have hI := hG.1
  have hmb := hK.2.2.2.1.2.2.1
  have hCS := hK.2.2.2.2.2
  obtain ⟨m1, ⟨m2, m3⟩, ⟨m4, m5⟩, ⟨⟨m6, g6⟩, m7, g7⟩, m8, m9⟩ := hMo
  refine ⟨_, ch_execute l g ad M F _ _ (ct_X11_execute l g ad M F T n t many V U hCS hB.2.2.2 hK.1 hG hK.2.2.2.1 ⟨hB.1.1, by omega⟩) (fun E M' F' q => ?_), fun k M1 F1 hp hR1 => ?_⟩
  · obtain ⟨m, _, q, _⟩ := q
    rcases q with q | q
    · exact Or.inl q.1
    · exact Or.inr q.1
  -- what the class brings, in one form
  have hc : ∃ m : Nat, ((∀ i, i < m → zgo T n i) ∧ ¬ zgo T n m) ∧ ∃ M0, (∀ i, i ≠ 408 → M1 i = M0 i) ∧ zXF M F M0 F1 ∧
      ((k = 0 ∧ zer T n m = -1 ∧ (∀ i, i ≤ m → zok T n V i) ∧ M1 408 0 = (m : Int) + 1 ∧ zRS 1 (zVi T n V (m + 1)) M0 F1 ∧ zHi t (zm8 many) (fun k => if k = 0 then V else U (k - 1)) M0 F1 ∧ M0 0 7 = M 0 7 ∧ M0 0 8 = M 0 8) ∨
       (k = 1 ∧ zer T n m ≠ -1 ∧ M0 0 7 = zer T n m ∧ M0 0 8 = M 0 8 ∧ zRS 1 V M0 F1 ∧ zHi t many U M0 F1) ∨
       (k = 2 ∧ zer T n m = -1 ∧ M0 0 7 = M 0 7 ∧ (∃ f : Nat, f ≤ m ∧ (∀ i, i < f → zok T n V i) ∧ ¬ zok T n V f ∧ M0 0 8 = (f : Int)) ∧ zRS 1 V M0 F1 ∧ zHi t many U M0 F1)) := by
    rcases hp with ⟨rfl, r, M0, hr, ⟨m, q1, q2, q3, q4, q5, q6, q7, q8, q9⟩, rfl⟩ | ⟨rfl, m, q1, q2, q3, q4, q5⟩ | ⟨rfl, m, q1, q2, q3, q4, q5⟩
    · exact ⟨m, q1, M0, fun i i0 => zu_row i0, q9, Or.inl ⟨rfl, q2, q3, by rw [zu_same, q4], q5, q6, q7, q8⟩⟩
    · rcases q2 with ⟨e9, q⟩ | ⟨e9, q⟩
      · exact ⟨m, q1, M1, fun _ _ => rfl, q5, Or.inr (Or.inl ⟨rfl, q.1, q.2.1, q.2.2, q3, q4⟩)⟩
      · exact absurd e9 (by decide)
    · rcases q2 with ⟨e9, q⟩ | ⟨e9, q⟩
      · exact absurd e9 (by decide)
      · exact ⟨m, q1, M1, fun _ _ => rfl, q5, Or.inr (Or.inr ⟨rfl, q.1, q.2.1, q.2.2, q3, q4⟩)⟩
  clear hp
  obtain ⟨m, hgo, M0, e0, hxf, hk⟩ := hc
  have row : ∀ i, 398 ≤ i → i ≠ 408 → M1 i = M i := fun i i0 i1 => (e0 i i1).trans (hxf.1 i (by omega)).1
  have hV1 : M1 399 = V := (row 399 (by omega) (by omega)).trans hV
  refine ⟨_, ct_X12_execute l g ad M1 F1 T V n t ((row 406 (by omega) (by omega)).trans m8) ((congrFun (row 398 (by omega) (by omega)) 12).trans m9) hCS.2.2 hB.2.2.2 hV1 hG ⟨hB.1.1, by omega⟩ (by rw [row 398 (by omega) (by omega), m4]; exact hmb), fun v M2 F2 hm => ?_⟩
  obtain ⟨b, rfl, hb, m', ⟨hgo', hfr, hm⟩, rfl⟩ := hm
  have := zm_one hgo.1 hgo.2 hgo'.1 hgo'.2
  subst this
  have hat := zAt_bd hCS.2.2.1 m hgo.1
  have hm8 : (m : Int) ≤ 8 := by have := hCS.2.2.2; omega
  obtain ⟨f1, f2, f12⟩ := hfr
  have hcls : ∀ i, 0 ≤ i → i < 398 → M2 i = M0 i := fun i i0 i1 => (f1 i (by omega) (by omega) (by omega) (by omega) (by omega) (by omega)).trans (e0 i (by omega))
  have hS : sv = 1 → zGd t S := fun z => (hB.2.1.2 z).1
  have e8 : ∀ j, j ≠ 6 → j ≠ 8 → j ≠ 12 → j ≠ 13 → j ≠ 14 → j ≠ 15 → j ≠ 16 → j ≠ 18 → M2 398 j = M 398 j := fun j a1 a2 a3 a4 a5 a6 a7 a8 => (f2 j a1 a2 a3 a4 a5 a6 a7 a8).trans (congrFun (row 398 (by omega) (by omega)) j)
  have er : ∀ i, i = 401 ∨ i = 402 ∨ i = 405 ∨ i = 406 → M2 i = M i := fun i i0 => (f1 i (by omega) (by omega) (by omega) (by omega) (by omega) (by omega)).trans (row i (by omega) (by omega))
  have hCO : zCO M2 := zCO_in hO ((hcls 396 (by omega) (by omega)).trans (hxf.1 396 (by omega)).1) ((hcls 397 (by omega) (by omega)).trans (hxf.1 397 (by omega)).1) (e8 10 (by omega) (by omega) (by omega) (by omega) (by omega) (by omega) (by omega) (by omega)) (er 405 (by omega))
  have hCK : ∀ (W : Int → Int) (many' : Int) (U' : Int → Int → Int) (ep' fc' : Int), zGd (t + 7000) W → zRS 1 W M0 F1 → zHi t many' U' M0 F1 → M0 0 7 = ep' → M0 0 8 = fc' → zCK (t + 7000) W sv S many' U' ep' fc' T 0 M2 F1 := by
    intro W many' U' ep' fc' hW h1 h2 h7 h8
    refine ⟨zRS_in h1 hW.b1 hW.b2 (fun i i0 i1 => ⟨hcls i (by omega) (by omega), rfl⟩), ⟨zRp_in hK.2.1.1 (hxf.1 (32 + 6) (by omega)).2, zRp_in hK.2.1.2 (hxf.1 (63 + 6) (by omega)).2⟩, ⟨?_, fun z => zRS_in (hK.2.2.1.2 z) (hS z).b1 (hS z).b2 (fun i i0 i1 => ⟨(hcls i (by omega) (by omega)).trans (hxf.1 i (by omega)).1, (hxf.1 i (by omega)).2⟩)⟩, zHi_up (zHi_in h2 (fun i i0 i1 => ⟨hcls i (by omega) (by omega), rfl⟩)) (by omega), ⟨(congrFun (hcls 0 (by omega) (by omega)) 7).trans h7, (congrFun (hcls 0 (by omega) (by omega)) 8).trans h8⟩, ?_, ?_, by decide⟩
    · exact (congrFun (hcls 0 (by omega) (by omega)) 6).trans ((hxf.2.1 6 (by omega) (by omega)).trans hK.2.2.1.1)
    · exact (hcls 376 (by omega) (by omega)).trans ((hxf.1 376 (by omega)).1.trans hCS.1)
    · exact (congrFun (hcls 375 (by omega) (by omega)) 1).trans hxf.2.2
  have hup : zGd (t + 7000) V := zGd_up hG (by omega)
  have m403 : M1 403 = M 403 := row 403 (by omega) (by omega)
  have m6' : M1 398 6 = many := (congrFun (row 398 (by omega) (by omega)) 6).trans m4
  rcases hm with ⟨h1, e1, h8, h15, h16, h6, h399, h403⟩ | ⟨h1, f, hf1, hf2, hf3, e1, h8, h15, h16, h6, h399, h403⟩ | ⟨h1, hok, e1, h8, h15, h16, N, rfl, n399, n400, n403, n6⟩
  · -- malformed
    rcases hk with ⟨_, z, _⟩ | ⟨rfl, _, k7, k8, k1, k2⟩ | ⟨_, z, _⟩
    · exact absurd z h1
    · exact ⟨b, rfl, hb, h8, fun z => absurd z (by decide), V, sv, S, many, U, zer T n m, fc, T, 0, hCK V many U _ _ hup k1 k2 k7 (k8.trans hK.2.2.2.2.1.2), ⟨h399, ⟨(e8 4 (by omega) (by omega) (by omega) (by omega) (by omega) (by omega) (by omega) (by omega)).trans m2, fun z => (er 402 (by omega)).trans (m3 z)⟩, ⟨h6.trans m6', fun k j k0 k1 j0 j1 => by rw [h403, m403]; exact m5 k j k0 k1 j0 j1⟩, ⟨⟨h15, zer_ge⟩, h16.trans ((congrFun (row 398 (by omega) (by omega)) 16).trans m7), g7⟩, (er 406 (by omega)).trans m8, f12⟩, zCB_up hB (by omega) (by omega), hCO⟩
    · exact absurd z h1
  · rcases hk with ⟨_, _, q, _⟩ | ⟨_, z, _⟩ | ⟨rfl, _, k7, ⟨f', kf1, kf2, kf3, kf4⟩, k1, k2⟩
    · exact absurd (q f hf1) hf3
    · exact absurd h1 z
    · have := zok_one hf2 hf3 kf2 kf3
      subst this
      exact ⟨b, rfl, hb, h8, fun z => absurd z (by decide), V, sv, S, many, U, ep, (f : Int), T, 0, hCK V many U _ _ hup k1 k2 (k7.trans hK.2.2.2.2.1.1) kf4, ⟨h399, ⟨(e8 4 (by omega) (by omega) (by omega) (by omega) (by omega) (by omega) (by omega) (by omega)).trans m2, fun z => (er 402 (by omega)).trans (m3 z)⟩, ⟨h6.trans m6', fun k j k0 k1 j0 j1 => by rw [h403, m403]; exact m5 k j k0 k1 j0 j1⟩, ⟨⟨h15.trans ((congrFun (row 398 (by omega) (by omega)) 15).trans m6), g6⟩, h16, by omega⟩, (er 406 (by omega)).trans m8, f12⟩, zCB_up hB (by omega) (by omega), hCO⟩
  · rcases hk with ⟨rfl, _, _, k408, k1, k2, k7, k8⟩ | ⟨_, z, _⟩ | ⟨_, _, _, ⟨f', kf1, kf2, kf3, kf4⟩, _⟩
    · have hW : zGd (t + 7000) (zVi T n V (m + 1)) := zGd_up (zG_Vi (T := T) (n := n) hG hB.1.1 (m + 1)) (by omega)
      have hW3 := zVi_3 (T := T) (n := n) hG hB.1.1 (m + 1)
      have z8 : zpush N 398 6 = zm8 many ∧ ∀ k j, 0 ≤ k → k < zm8 many → 0 ≤ j → j < 1496 → zpush N 403 (1496 * (zm8 many - 1 - k) + j) = (if k = 0 then V else U (k - 1)) j := by
        have e6 : N 398 6 = many := n6.trans m6'
        have hz : zm8 many ≤ many + 1 := by unfold zm8; split <;> omega
        refine ⟨?_, fun k j k0 k1 j0 j1 => ?_⟩
        · rcases zpush_6 (M := N) with q | q
          · rw [q, e6]
          · exact absurd (by rw [e6]; exact hmb) q
        · have q := zpush_403 (M := N) (by rw [e6]; exact hmb.1) (by rw [e6]; exact hmb.2) k0 (by rw [e6]; exact k1) j0 j1
          rw [e6] at q
          rw [q, n400]
          by_cases hk0 : k = 0
          · rw [if_pos hk0, if_pos hk0]
          · rw [if_neg hk0, if_neg hk0, n403, m403]
            exact m5 (k - 1) j (by omega) (by omega) j0 j1
      refine ⟨b, rfl, hb, h8, fun _ => ?_, zVi T n V (m + 1), sv, S, zm8 many, (fun k => if k = 0 then V else U (k - 1)), ep, fc, T, 0, hCK _ _ _ _ _ hW k1 k2 (k7.trans hK.2.2.2.2.1.1) (k8.trans hK.2.2.2.2.1.2), ⟨?_, ⟨(e8 4 (by omega) (by omega) (by omega) (by omega) (by omega) (by omega) (by omega) (by omega)).trans m2, fun z => (er 402 (by omega)).trans (m3 z)⟩, z8, ⟨⟨h15.trans ((congrFun (row 398 (by omega) (by omega)) 15).trans m6), g6⟩, h16.trans ((congrFun (row 398 (by omega) (by omega)) 16).trans m7), g7⟩, (er 406 (by omega)).trans m8, f12⟩, zCB_push hB (by omega) (by omega) hW (by have := hB.1.2.2; omega) (fun j => by rw [← hV]; exact hRM 399 j) hmb.1, hCO⟩
      · rw [f1 408 (by omega) (by omega) (by omega) (by omega) (by omega) (by omega), k408, e1]
      · rw [← n399]
        exact funext fun j => zpush_row (by omega) (by omega) j
    · exact absurd h1 z
    · exact absurd (hok f' kf1) kf3
