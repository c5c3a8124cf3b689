/-! the nine changes, class and model -/
theorem pd_AC {V : Int → Int} : (0 ≤ (zdAC V).1 ∧ (zdAC V).1 ≤ 1) ∧ (0 < (zdAC V).1 → (zdAC V).2.2 = V) ∧ ((zdAC V).1 = 0 → (zdAC V).2.2 0 - 1 = (zdAC V).2.1) ∧ (zdAC V).2.2 3 ≤ V 3 + 1 := by
  unfold zdAC
  split
  · exact ⟨⟨by dsimp only; omega, by dsimp only; omega⟩, fun _ => rfl, fun z => absurd z (by dsimp only; omega), by show V 3 ≤ V 3 + 1; omega⟩
  · refine ⟨⟨by dsimp only; omega, by dsimp only; omega⟩, fun z => absurd z (by dsimp only; omega), fun _ => ?_, ?_⟩
    · show zup V 0 (V 0 + 1) 0 - 1 = V 0 + 1 - 1
      rw [zup_same]
    · show zup V 0 (V 0 + 1) 3 ≤ V 3 + 1
      rw [zup_ne (by decide)]
      omega
theorem pd_AT {a b d : Int} {V : Int → Int} : (0 ≤ (zdAT a b d V).1 ∧ (zdAT a b d V).1 ≤ 3) ∧ (0 < (zdAT a b d V).1 → (zdAT a b d V).2.2 = V) ∧ ((zdAT a b d V).1 = 0 → zTu ((zdAT a b d V).2.2) = (zdAT a b d V).2.1) ∧ (zdAT a b d V).2.2 3 ≤ V 3 + 1 := by
  unfold zdAT
  split
  · exact ⟨⟨by dsimp only; omega, by dsimp only; omega⟩, fun _ => rfl, fun z => absurd z (by dsimp only; omega), by show V 3 ≤ V 3 + 1; omega⟩
  · next hc =>
    split
    · exact ⟨⟨by dsimp only; omega, by dsimp only; omega⟩, fun _ => rfl, fun z => absurd z (by dsimp only; omega), by show V 3 ≤ V 3 + 1; omega⟩
    · split
      · exact ⟨⟨by dsimp only; omega, by dsimp only; omega⟩, fun _ => rfl, fun z => absurd z (by dsimp only; omega), by show V 3 ≤ V 3 + 1; omega⟩
      · refine ⟨⟨by dsimp only; omega, by dsimp only; omega⟩, fun z => absurd z (by dsimp only; omega), fun _ => rfl, ?_⟩
        show zup (zup V (8 + 8 * a + b) d) (8 + 8 * b + a) d 3 ≤ V 3 + 1
        rw [zup_ne (by omega), zup_ne (by omega)]
        omega
theorem pd_RT {a b : Int} {V : Int → Int} : (0 ≤ (zdRT a b V).1 ∧ (zdRT a b V).1 ≤ 2) ∧ (0 < (zdRT a b V).1 → (zdRT a b V).2.2 = V) ∧ ((zdRT a b V).1 = 0 → (if zisC V a ∧ zisC V b then V (8 + 8 * a + b) else 0) = (zdRT a b V).2.1) ∧ (zdRT a b V).2.2 3 ≤ V 3 + 1 := by
  unfold zdRT
  by_cases hc : zisC V a ∧ zisC V b
  · rw [if_neg (fun z => z hc), if_pos hc]
    split
    · exact ⟨⟨by dsimp only; omega, by dsimp only; omega⟩, fun _ => rfl, fun z => absurd z (by dsimp only; omega), by show V 3 ≤ V 3 + 1; omega⟩
    · refine ⟨⟨by dsimp only; omega, by dsimp only; omega⟩, fun z => absurd z (by dsimp only; omega), fun _ => rfl, ?_⟩
      show zup (zup V (8 + 8 * a + b) 0) (8 + 8 * b + a) 0 3 ≤ V 3 + 1
      rw [zup_ne (by omega), zup_ne (by omega)]
      omega
  · rw [if_pos hc]
    exact ⟨⟨by dsimp only; omega, by dsimp only; omega⟩, fun _ => rfl, fun z => absurd z (by dsimp only; omega), by show V 3 ≤ V 3 + 1; omega⟩
theorem pd_AH {c : Int} {V : Int → Int} (h1 : 0 ≤ V 1) : (0 ≤ (zdAH c V).1 ∧ (zdAH c V).1 ≤ 2) ∧ (0 < (zdAH c V).1 → (zdAH c V).2.2 = V) ∧ ((zdAH c V).1 = 0 → (zdAH c V).2.2 1 - 1 = (zdAH c V).2.1) ∧ (zdAH c V).2.2 3 ≤ V 3 + 1 := by
  unfold zdAH
  split
  · exact ⟨⟨by dsimp only; omega, by dsimp only; omega⟩, fun _ => rfl, fun z => absurd z (by dsimp only; omega), by show V 3 ≤ V 3 + 1; omega⟩
  · split
    · exact ⟨⟨by dsimp only; omega, by dsimp only; omega⟩, fun _ => rfl, fun z => absurd z (by dsimp only; omega), by show V 3 ≤ V 3 + 1; omega⟩
    · refine ⟨⟨by dsimp only; omega, by dsimp only; omega⟩, fun z => absurd z (by dsimp only; omega), fun _ => ?_, ?_⟩
      · show zup (zup (zup (zup (zup V (72 + 4 * V 1) c) (72 + 4 * V 1 + 1) 1) (72 + 4 * V 1 + 2) 0) (72 + 4 * V 1 + 3) 0) 1 (V 1 + 1) 1 - 1 = V 1
        rw [zup_same]
        omega
      · show zup (zup (zup (zup (zup V (72 + 4 * V 1) c) (72 + 4 * V 1 + 1) 1) (72 + 4 * V 1 + 2) 0) (72 + 4 * V 1 + 3) 0) 1 (V 1 + 1) 3 ≤ V 3 + 1
        rw [zup_ne (by omega), zup_ne (by omega), zup_ne (by omega), zup_ne (by omega), zup_ne (by omega)]
        omega
theorem pd_Mv {x c : Int} {V : Int → Int} : (0 ≤ (zdMv x c V).1 ∧ (zdMv x c V).1 ≤ 2) ∧ (0 < (zdMv x c V).1 → (zdMv x c V).2.2 = V) ∧ ((zdMv x c V).1 = 0 → (if zisH V x then V (72 + 4 * x + 0) else -1) = (zdMv x c V).2.1) ∧ (zdMv x c V).2.2 3 ≤ V 3 + 1 := by
  unfold zdMv
  by_cases hc : zisH V x ∧ zisC V c
  · rw [if_neg (fun z => z hc), if_pos hc.1]
    split
    · exact ⟨⟨by dsimp only; omega, by dsimp only; omega⟩, fun _ => rfl, fun z => absurd z (by dsimp only; omega), by show V 3 ≤ V 3 + 1; omega⟩
    · refine ⟨⟨by dsimp only; omega, by dsimp only; omega⟩, fun z => absurd z (by dsimp only; omega), fun _ => rfl, ?_⟩
      show zup V (72 + 4 * x) c 3 ≤ V 3 + 1
      rw [zup_ne (by omega)]
      omega
  · rw [if_pos hc]
    exact ⟨⟨by dsimp only; omega, by dsimp only; omega⟩, fun _ => rfl, fun z => absurd z (by dsimp only; omega), by show V 3 ≤ V 3 + 1; omega⟩
theorem pd_Li {x : Int} {P : Prop} [Decidable P] {V : Int → Int} : (0 ≤ (zdLi x P V).1 ∧ (zdLi x P V).1 ≤ 1) ∧ (0 < (zdLi x P V).1 → (zdLi x P V).2.2 = V) ∧ ((zdLi x P V).1 = 0 → (if zisH V x then V (72 + 4 * x + 1) else 0) = (zdLi x P V).2.1) ∧ (zdLi x P V).2.2 3 ≤ V 3 + 1 := by
  unfold zdLi
  by_cases hc : zisH V x
  · rw [if_neg (fun z => z hc), if_pos hc]
    refine ⟨⟨by dsimp only; omega, by dsimp only; omega⟩, fun z => absurd z (by dsimp only; omega), fun _ => rfl, ?_⟩
    show zup V (72 + 4 * x + 1) (zb P) 3 ≤ V 3 + 1
    rw [zup_ne (by omega)]
    omega
  · rw [if_pos hc]
    exact ⟨⟨by dsimp only; omega, by dsimp only; omega⟩, fun _ => rfl, fun z => absurd z (by dsimp only; omega), by show V 3 ≤ V 3 + 1; omega⟩
theorem pd_Say {s r n : Int} {V : Int → Int} : (0 ≤ (zdSay s r n V).1 ∧ (zdSay s r n V).1 ≤ 3) ∧ (0 < (zdSay s r n V).1 → (zdSay s r n V).2.2 = V) ∧ ((zdSay s r n V).1 = 0 → V 3 = (zdSay s r n V).2.1) ∧ (zdSay s r n V).2.2 3 ≤ V 3 + 1 := by
  unfold zdSay
  split
  · exact ⟨⟨by dsimp only; omega, by dsimp only; omega⟩, fun _ => rfl, fun z => absurd z (by dsimp only; omega), by show V 3 ≤ V 3 + 1; omega⟩
  · split
    · exact ⟨⟨by dsimp only; omega, by dsimp only; omega⟩, fun _ => rfl, fun z => absurd z (by dsimp only; omega), by show V 3 ≤ V 3 + 1; omega⟩
    · split
      · exact ⟨⟨by dsimp only; omega, by dsimp only; omega⟩, fun _ => rfl, fun z => absurd z (by dsimp only; omega), by show V 3 ≤ V 3 + 1; omega⟩
      · refine ⟨⟨by dsimp only; omega, by dsimp only; omega⟩, fun z => absurd z (by dsimp only; omega), fun _ => ?_, ?_⟩
        · show V 3 = V 3 + 1 - 1
          omega
        · show zdSayR s r n V 3 ≤ V 3 + 1
          unfold zdSayR
          rw [zup_same]
          omega
theorem pd_Fo {x : Int} {V : Int → Int} : (0 ≤ (zdFo x V).1 ∧ (zdFo x V).1 ≤ 2) ∧ (0 < (zdFo x V).1 → (zdFo x V).2.2 = V) ∧ ((zdFo x V).1 = 0 → (zdFo x V).2.2 2 = (zdFo x V).2.1) ∧ (zdFo x V).2.2 3 ≤ V 3 + 1 := by
  unfold zdFo
  split
  · exact ⟨⟨by dsimp only; omega, by dsimp only; omega⟩, fun _ => rfl, fun z => absurd z (by dsimp only; omega), by show V 3 ≤ V 3 + 1; omega⟩
  · split
    · exact ⟨⟨by dsimp only; omega, by dsimp only; omega⟩, fun _ => rfl, fun z => absurd z (by dsimp only; omega), by show V 3 ≤ V 3 + 1; omega⟩
    · refine ⟨⟨by dsimp only; omega, by dsimp only; omega⟩, fun z => absurd z (by dsimp only; omega), fun _ => ?_, ?_⟩
      · show zdFoR (zpl x V) V 2 = V 2 - 1
        unfold zdFoR
        rw [if_neg (by omega), zup_same]
      · show zdFoR (zpl x V) V 3 ≤ V 3 + 1
        unfold zdFoR
        rw [if_neg (by omega), zup_ne (by decide)]
        omega
theorem pd_PT {x t : Int} {V : Int → Int} (hG : zGd t V) : (0 ≤ (zdPT x V).1 ∧ (zdPT x V).1 ≤ 1) ∧ (0 < (zdPT x V).1 → (zdPT x V).2.2 = V) ∧ ((zdPT x V).1 = 0 → (zdPT x V).2.2 6 - V 6 = (zdPT x V).2.1) ∧ (zdPT x V).2.2 3 ≤ V 3 + 1 := by
  unfold zdPT
  split
  · exact ⟨⟨by dsimp only; omega, by dsimp only; omega⟩, fun _ => rfl, fun z => absurd z (by dsimp only; omega), by show V 3 ≤ V 3 + 1; omega⟩
  · refine ⟨⟨by dsimp only; omega, by dsimp only; omega⟩, fun z => absurd z (by dsimp only; omega), fun _ => rfl, ?_⟩
    show zTks x.toNat V 3 ≤ V 3 + 1
    rw [(zTks_keep hG.1 hG.2.1 x.toNat).2.2.1 3 (by decide)]
    omega
theorem zG_PT' {t n : Int} {V : Int → Int} (hG : zGd t V) (ht : 0 ≤ t) : zGd (t + 7000) (zdPT n V).2.2 := by
  by_cases h : 1 ≤ n ∧ n ≤ 40
  · exact zGd_up ((zG_PT hG (by omega)).resolve_right (fun z => z h)) (by omega)
  · unfold zdPT
    rw [if_pos h]
    exact zGd_up hG (by omega)
theorem ft_2 {a K f : Int} (h0 : 0 ≤ K ∧ K ≤ 1) (hf : zFt [a] K f) : (K = 0 ∧ f = 0) ∨ (K = 1 ∧ f = a) := by
  rcases (by omega : K = 0 ∨ K = 1) with rfl | rfl
  · exact Or.inl ⟨rfl, hf⟩
  · exact Or.inr ⟨rfl, hf⟩
theorem ft_3 {a b K f : Int} (h0 : 0 ≤ K ∧ K ≤ 2) (hf : zFt [a, b] K f) : (K = 0 ∧ f = 0) ∨ (K = 1 ∧ f = a) ∨ (K = 2 ∧ f = b) := by
  rcases (by omega : K = 0 ∨ K = 1 ∨ K = 2) with rfl | rfl | rfl
  · exact Or.inl ⟨rfl, hf⟩
  · exact Or.inr (Or.inl ⟨rfl, hf⟩)
  · exact Or.inr (Or.inr ⟨rfl, hf⟩)
theorem ft_4 {a b c K f : Int} (h0 : 0 ≤ K ∧ K ≤ 3) (hf : zFt [a, b, c] K f) : (K = 0 ∧ f = 0) ∨ (K = 1 ∧ f = a) ∨ (K = 2 ∧ f = b) ∨ (K = 3 ∧ f = c) := by
  rcases (by omega : K = 0 ∨ K = 1 ∨ K = 2 ∨ K = 3) with rfl | rfl | rfl | rfl
  · exact Or.inl ⟨rfl, hf⟩
  · exact Or.inr (Or.inl ⟨rfl, hf⟩)
  · exact Or.inr (Or.inr (Or.inl ⟨rfl, hf⟩))
  · exact Or.inr (Or.inr (Or.inr ⟨rfl, hf⟩))
/-- class and model after a change -/
theorem lc_std {t d : Int} {M F M1 F1 M2 F2 : zMem} {k b r : Int} {o : zO} {V S T : Int → Int} {U : Int → Int → Int} {sv many ep fc n : Int} (hK : zCK t V sv S many U ep fc T n M F) (hMo : zCM V sv S many U ep fc T n M) (hB : zCB t d V sv S many U T) (hO : zCO M) (hRM : zRM M) (hX : 0 < o.1 → o.2.2 = V) (hX3 : o.2.2 3 ≤ V 3 + 1) (hG' : zGd (t + 7000) o.2.2)
    (hc : (o.1 = 0 ∧ k = 0 ∧ ∃ M0, zRS 1 o.2.2 M0 F1 ∧ zHi t (zm8 many) (fun k => if k = 0 then V else U (k - 1)) M0 F1 ∧ zFr M F M0 F1 ∧ M1 = zu M0 408 0 r) ∨ (0 < o.1 ∧ k = o.1 ∧ zRS 1 o.2.2 M1 F1 ∧ zHi t many U M1 F1 ∧ zFr M F M1 F1))
    (hm : (0 < o.1 ∧ M2 = zFL M1 o.1) ∨ (o.1 = 0 ∧ r = b ∧ ∃ N, M2 = zpush N ∧ N 399 = o.2.2 ∧ N 400 = M1 399 ∧ (∀ i, i ≠ 398 → i ≠ 399 → i ≠ 400 → i ≠ 404 → N i = M1 i) ∧ N 398 8 = 0 ∧ ∀ j, j ≠ 8 → N 398 j = M1 398 j)) (hF2 : F2 = F1) :
    M2 398 8 = k ∧ (k = 0 → M2 408 0 = b) ∧ zCR (t + 7000) (d + 9) M2 F2 := by
  subst hF2
  rcases hm with ⟨h0, rfl⟩ | ⟨h0, rfl, N, rfl, n1, n2, n3, n4, n5⟩
  · rcases hc with ⟨h1, _⟩ | ⟨_, rfl, a1, a2, a3⟩
    · omega
    rw [hX h0] at a1
    have row : ∀ i, i ≠ 398 → i ≠ 400 → zFL M1 o.1 i = M1 i := fun i i1 i2 => by
      unfold zFL
      by_cases e : i = 399
      · subst e
        show (if (399 : Int) = 399 then M1 399 else _) = _
        rw [if_pos rfl]
      · rw [zrow_ne e, zu_row i1, zrow_ne i2, zu_row i1]
    have r8 : ∀ j, j ≠ 8 → zFL M1 o.1 398 j = M1 398 j := fun j j1 => by
      unfold zFL
      rw [zrow_ne (by omega), zu_ne (by omega), zrow_ne (by omega), zu_ne (by omega)]
    have r88 : zFL M1 o.1 398 8 = o.1 := by
      unfold zFL
      rw [zrow_ne (by omega), zu_same]
    refine ⟨r88, fun z => by omega, ?_⟩
    refine zCR_up (t := t) (d := d) ⟨V, sv, S, many, U, ep, fc, T, n, ?_, ?_, hB, ?_⟩ (by omega) (by omega)
    · exact zCK_in (zCK_ref hK (fun z => (hB.2.1.2 z).1) a1 a2 a3) hB.1.2.1 (fun z => (hB.2.1.2 z).1) (fun i i0 i1 _ _ => ⟨row i (by omega) (by omega), rfl⟩) (zRp_in hK.2.1.1 (a3 (32 + 6) (by omega) (by omega)).2)
    · exact zCM_in hMo (fun i i0 i1 i2 _ _ _ _ => (row i (by omega) i2).trans (a3 i (by omega) (by omega)).1) (fun j j0 _ _ _ _ => (r8 j j0).trans (congrFun (a3 398 (by omega) (by omega)).1 j))
    · exact zCO_in hO ((row 396 (by omega) (by omega)).trans (a3 396 (by omega) (by omega)).1) ((row 397 (by omega) (by omega)).trans (a3 397 (by omega) (by omega)).1) ((r8 10 (by omega)).trans (congrFun (a3 398 (by omega) (by omega)).1 10)) ((row 405 (by omega) (by omega)).trans (a3 405 (by omega) (by omega)).1)
  · rcases hc with ⟨_, rfl, M0, a1, a2, a3, rfl⟩ | ⟨h1, _⟩
    · have row : ∀ i, i ≠ 398 → i ≠ 399 → i ≠ 400 → i ≠ 403 → i ≠ 404 → i ≠ 408 → zpush N i = M0 i := fun i i1 i2 i3 i4 i5 i6 => funext fun j => by
        rw [zpush_row i1 i4, n3 i i1 i2 i3 i5, zu_row i6]
      have hV := hMo.1
      have m9 := (a3 399 (by omega) (by omega)).1
      have hb := hK.2.2.2.1.2.2.1
      have hS : sv = 1 → zGd (t + 7000) S := fun z => zGd_up (hB.2.1.2 z).1 (by omega)
      have e398 : ∀ j, j ≠ 8 → N 398 j = M 398 j := fun j j0 => (n5 j j0).trans ((congrFun (zu_row (by omega)) j).trans (congrFun (a3 398 (by omega) (by omega)).1 j))
      have eN : ∀ i, i = 402 ∨ i = 403 ∨ i = 406 → N i = M i := fun i i0 => (n3 i (by omega) (by omega) (by omega) (by omega)).trans ((zu_row (by omega)).trans (a3 i (by omega) (by omega)).1)
      have e400 : N 400 = V := n2.trans ((zu_row (by omega)).trans (m9.trans hV))
      refine ⟨by rw [zpush_398 (by omega), n4], fun _ => ?_, o.2.2, sv, S, zm8 many, _, ep, fc, T, n, ?_, zCM_push hMo hb n1 e400 eN e398, zCB_push hB (by omega) (by omega) hG' (by have := hB.1.2.2; omega) (fun j => by rw [← hV]; exact hRM 399 j) hb.1, ?_⟩
      · rw [zpush_row (by omega) (by omega), n3 408 (by omega) (by omega) (by omega) (by omega), zu_same]
      · exact zCK_in (zCK_push hK (by omega) (fun z => (hB.2.1.2 z).1) a1 a2 a3) hG' hS (fun i i0 i1 _ _ => ⟨row i (by omega) (by omega) (by omega) (by omega) (by omega) (by omega), rfl⟩) (zRp_in hK.2.1.1 (a3 (32 + 6) (by omega) (by omega)).2)
      · exact zCO_in hO ((row 396 (by omega) (by omega) (by omega) (by omega) (by omega) (by omega)).trans (a3 396 (by omega) (by omega)).1) ((row 397 (by omega) (by omega) (by omega) (by omega) (by omega) (by omega)).trans (a3 397 (by omega) (by omega)).1) (by rw [zpush_398 (by omega)]; exact e398 10 (by omega)) ((row 405 (by omega) (by omega) (by omega) (by omega) (by omega) (by omega)).trans (a3 405 (by omega) (by omega)).1)
    · omega
