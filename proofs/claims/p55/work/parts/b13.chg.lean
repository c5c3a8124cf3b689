/-! the changes as the law sees them -/
theorem pd_AC {V : Int → Int} : (0 ≤ (zdAC V).1 ∧ (zdAC V).1 ≤ 1) ∧ (0 < (zdAC V).1 → (zdAC V).2.2 = V) ∧ ((zdAC V).1 = 0 → (zdAC V).2.2 0 - 1 = (zdAC V).2.1) ∧ (zdAC V).2.2 3 ≤ V 3 + 1 := by
  unfold zdAC
  split
  · exact ⟨⟨by dsimp only; omega, by dsimp only; omega⟩, fun _ => rfl, fun z => absurd z (by dsimp only; omega), by show V 3 ≤ V 3 + 1; omega⟩
  · refine ⟨⟨by dsimp only; omega, by dsimp only; omega⟩, fun z => absurd z (by dsimp only; omega), fun _ => ?_, ?_⟩
    · show zup V 0 (V 0 + 1) 0 - 1 = V 0 + 1 - 1
      rw [zup_same]
    · show zup V 0 (V 0 + 1) 3 ≤ V 3 + 1
      rw [zup_ne (by decide)]
      omega
theorem pd_AT {a b d : Int} {V : Int → Int} : (0 ≤ (zdAT a b d V).1 ∧ (zdAT a b d V).1 ≤ 3) ∧ (0 < (zdAT a b d V).1 → (zdAT a b d V).2.2 = V) ∧ ((zdAT a b d V).1 = 0 → zTu ((zdAT a b d V).2.2) = (zdAT a b d V).2.1) ∧ (zdAT a b d V).2.2 3 ≤ V 3 + 1 := by
  unfold zdAT
  split
  · exact ⟨⟨by dsimp only; omega, by dsimp only; omega⟩, fun _ => rfl, fun z => absurd z (by dsimp only; omega), by show V 3 ≤ V 3 + 1; omega⟩
  · next hc =>
    split
    · exact ⟨⟨by dsimp only; omega, by dsimp only; omega⟩, fun _ => rfl, fun z => absurd z (by dsimp only; omega), by show V 3 ≤ V 3 + 1; omega⟩
    · split
      · exact ⟨⟨by dsimp only; omega, by dsimp only; omega⟩, fun _ => rfl, fun z => absurd z (by dsimp only; omega), by show V 3 ≤ V 3 + 1; omega⟩
      · refine ⟨⟨by dsimp only; omega, by dsimp only; omega⟩, fun z => absurd z (by dsimp only; omega), fun _ => rfl, ?_⟩
        show zup (zup V (8 + 8 * a + b) d) (8 + 8 * b + a) d 3 ≤ V 3 + 1
        rw [zup_ne (by omega), zup_ne (by omega)]
        omega
theorem pd_RT {a b : Int} {V : Int → Int} : (0 ≤ (zdRT a b V).1 ∧ (zdRT a b V).1 ≤ 2) ∧ (0 < (zdRT a b V).1 → (zdRT a b V).2.2 = V) ∧ ((zdRT a b V).1 = 0 → (if zisC V a ∧ zisC V b then V (8 + 8 * a + b) else 0) = (zdRT a b V).2.1) ∧ (zdRT a b V).2.2 3 ≤ V 3 + 1 := by
  unfold zdRT
  by_cases hc : zisC V a ∧ zisC V b
  · rw [if_neg (fun z => z hc), if_pos hc]
    split
    · exact ⟨⟨by dsimp only; omega, by dsimp only; omega⟩, fun _ => rfl, fun z => absurd z (by dsimp only; omega), by show V 3 ≤ V 3 + 1; omega⟩
    · refine ⟨⟨by dsimp only; omega, by dsimp only; omega⟩, fun z => absurd z (by dsimp only; omega), fun _ => rfl, ?_⟩
      show zup (zup V (8 + 8 * a + b) 0) (8 + 8 * b + a) 0 3 ≤ V 3 + 1
      rw [zup_ne (by omega), zup_ne (by omega)]
      omega
  · rw [if_pos hc]
    exact ⟨⟨by dsimp only; omega, by dsimp only; omega⟩, fun _ => rfl, fun z => absurd z (by dsimp only; omega), by show V 3 ≤ V 3 + 1; omega⟩
theorem pd_AH {c : Int} {V : Int → Int} (h1 : 0 ≤ V 1) : (0 ≤ (zdAH c V).1 ∧ (zdAH c V).1 ≤ 2) ∧ (0 < (zdAH c V).1 → (zdAH c V).2.2 = V) ∧ ((zdAH c V).1 = 0 → (zdAH c V).2.2 1 - 1 = (zdAH c V).2.1) ∧ (zdAH c V).2.2 3 ≤ V 3 + 1 := by
  unfold zdAH
  split
  · exact ⟨⟨by dsimp only; omega, by dsimp only; omega⟩, fun _ => rfl, fun z => absurd z (by dsimp only; omega), by show V 3 ≤ V 3 + 1; omega⟩
  · split
    · exact ⟨⟨by dsimp only; omega, by dsimp only; omega⟩, fun _ => rfl, fun z => absurd z (by dsimp only; omega), by show V 3 ≤ V 3 + 1; omega⟩
    · refine ⟨⟨by dsimp only; omega, by dsimp only; omega⟩, fun z => absurd z (by dsimp only; omega), fun _ => ?_, ?_⟩
      · show zup (zup (zup (zup (zup V (72 + 4 * V 1) c) (72 + 4 * V 1 + 1) 1) (72 + 4 * V 1 + 2) 0) (72 + 4 * V 1 + 3) 0) 1 (V 1 + 1) 1 - 1 = V 1
        rw [zup_same]
        omega
      · show zup (zup (zup (zup (zup V (72 + 4 * V 1) c) (72 + 4 * V 1 + 1) 1) (72 + 4 * V 1 + 2) 0) (72 + 4 * V 1 + 3) 0) 1 (V 1 + 1) 3 ≤ V 3 + 1
        rw [zup_ne (by omega), zup_ne (by omega), zup_ne (by omega), zup_ne (by omega), zup_ne (by omega)]
        omega
theorem pd_Mv {x c : Int} {V : Int → Int} : (0 ≤ (zdMv x c V).1 ∧ (zdMv x c V).1 ≤ 2) ∧ (0 < (zdMv x c V).1 → (zdMv x c V).2.2 = V) ∧ ((zdMv x c V).1 = 0 → (if zisH V x then V (72 + 4 * x + 0) else -1) = (zdMv x c V).2.1) ∧ (zdMv x c V).2.2 3 ≤ V 3 + 1 := by
  unfold zdMv
  by_cases hc : zisH V x ∧ zisC V c
  · rw [if_neg (fun z => z hc), if_pos hc.1]
    split
    · exact ⟨⟨by dsimp only; omega, by dsimp only; omega⟩, fun _ => rfl, fun z => absurd z (by dsimp only; omega), by show V 3 ≤ V 3 + 1; omega⟩
    · refine ⟨⟨by dsimp only; omega, by dsimp only; omega⟩, fun z => absurd z (by dsimp only; omega), fun _ => rfl, ?_⟩
      show zup V (72 + 4 * x) c 3 ≤ V 3 + 1
      rw [zup_ne (by omega)]
      omega
  · rw [if_pos hc]
    exact ⟨⟨by dsimp only; omega, by dsimp only; omega⟩, fun _ => rfl, fun z => absurd z (by dsimp only; omega), by show V 3 ≤ V 3 + 1; omega⟩
theorem pd_Li {x : Int} {P : Prop} [Decidable P] {V : Int → Int} : (0 ≤ (zdLi x P V).1 ∧ (zdLi x P V).1 ≤ 1) ∧ (0 < (zdLi x P V).1 → (zdLi x P V).2.2 = V) ∧ ((zdLi x P V).1 = 0 → (if zisH V x then V (72 + 4 * x + 1) else 0) = (zdLi x P V).2.1) ∧ (zdLi x P V).2.2 3 ≤ V 3 + 1 := by
  unfold zdLi
  by_cases hc : zisH V x
  · rw [if_neg (fun z => z hc), if_pos hc]
    refine ⟨⟨by dsimp only; omega, by dsimp only; omega⟩, fun z => absurd z (by dsimp only; omega), fun _ => rfl, ?_⟩
    show zup V (72 + 4 * x + 1) (zb P) 3 ≤ V 3 + 1
    rw [zup_ne (by omega)]
    omega
  · rw [if_pos hc]
    exact ⟨⟨by dsimp only; omega, by dsimp only; omega⟩, fun _ => rfl, fun z => absurd z (by dsimp only; omega), by show V 3 ≤ V 3 + 1; omega⟩
theorem pd_Say {s r n : Int} {V : Int → Int} : (0 ≤ (zdSay s r n V).1 ∧ (zdSay s r n V).1 ≤ 3) ∧ (0 < (zdSay s r n V).1 → (zdSay s r n V).2.2 = V) ∧ ((zdSay s r n V).1 = 0 → V 3 = (zdSay s r n V).2.1) ∧ (zdSay s r n V).2.2 3 ≤ V 3 + 1 := by
  unfold zdSay
  split
  · exact ⟨⟨by dsimp only; omega, by dsimp only; omega⟩, fun _ => rfl, fun z => absurd z (by dsimp only; omega), by show V 3 ≤ V 3 + 1; omega⟩
  · split
    · exact ⟨⟨by dsimp only; omega, by dsimp only; omega⟩, fun _ => rfl, fun z => absurd z (by dsimp only; omega), by show V 3 ≤ V 3 + 1; omega⟩
    · split
      · exact ⟨⟨by dsimp only; omega, by dsimp only; omega⟩, fun _ => rfl, fun z => absurd z (by dsimp only; omega), by show V 3 ≤ V 3 + 1; omega⟩
      · refine ⟨⟨by dsimp only; omega, by dsimp only; omega⟩, fun z => absurd z (by dsimp only; omega), fun _ => ?_, ?_⟩
        · show V 3 = V 3 + 1 - 1
          omega
        · show zdSayR s r n V 3 ≤ V 3 + 1
          unfold zdSayR
          rw [zup_same]
          omega
theorem pd_Fo {x : Int} {V : Int → Int} : (0 ≤ (zdFo x V).1 ∧ (zdFo x V).1 ≤ 2) ∧ (0 < (zdFo x V).1 → (zdFo x V).2.2 = V) ∧ ((zdFo x V).1 = 0 → (zdFo x V).2.2 2 = (zdFo x V).2.1) ∧ (zdFo x V).2.2 3 ≤ V 3 + 1 := by
  unfold zdFo
  split
  · exact ⟨⟨by dsimp only; omega, by dsimp only; omega⟩, fun _ => rfl, fun z => absurd z (by dsimp only; omega), by show V 3 ≤ V 3 + 1; omega⟩
  · split
    · exact ⟨⟨by dsimp only; omega, by dsimp only; omega⟩, fun _ => rfl, fun z => absurd z (by dsimp only; omega), by show V 3 ≤ V 3 + 1; omega⟩
    · refine ⟨⟨by dsimp only; omega, by dsimp only; omega⟩, fun z => absurd z (by dsimp only; omega), fun _ => ?_, ?_⟩
      · show zdFoR (zpl x V) V 2 = V 2 - 1
        unfold zdFoR
        rw [if_neg (by omega), zup_same]
      · show zdFoR (zpl x V) V 3 ≤ V 3 + 1
        unfold zdFoR
        rw [if_neg (by omega), zup_ne (by decide)]
        omega
theorem pd_PT {x t : Int} {V : Int → Int} (hG : zGd t V) : (0 ≤ (zdPT x V).1 ∧ (zdPT x V).1 ≤ 1) ∧ (0 < (zdPT x V).1 → (zdPT x V).2.2 = V) ∧ ((zdPT x V).1 = 0 → (zdPT x V).2.2 6 - V 6 = (zdPT x V).2.1) ∧ (zdPT x V).2.2 3 ≤ V 3 + 1 := by
  unfold zdPT
  split
  · exact ⟨⟨by dsimp only; omega, by dsimp only; omega⟩, fun _ => rfl, fun z => absurd z (by dsimp only; omega), by show V 3 ≤ V 3 + 1; omega⟩
  · refine ⟨⟨by dsimp only; omega, by dsimp only; omega⟩, fun z => absurd z (by dsimp only; omega), fun _ => rfl, ?_⟩
    show zTks x.toNat V 3 ≤ V 3 + 1
    rw [(zTks_keep hG.1 hG.2.1 x.toNat).2.2.1 3 (by decide)]
    omega
abbrev zcons (V : Int → Int) (U : Int → Int → Int) : Int → Int → Int := fun k => if k = 0 then V else U (k - 1)
theorem zGd_up {t t' : Int} {V : Int → Int} (h : zGd t V) (q : t ≤ t') : zGd t' V := ⟨zIV_mono h.1 q, h.2⟩
theorem zHi_up {t t' many : Int} {U : Int → Int → Int} {M F : zMem} (h : zHi t many U M F) (q : t ≤ t') : zHi t' many U M F := ⟨h.1, h.2.1, h.2.2.1, fun k k0 k1 => ⟨(h.2.2.2.1 k k0 k1).1, zGd_up (h.2.2.2.1 k k0 k1).2 q⟩, h.2.2.2.2⟩
theorem zLw.up {t t' many : Int} {V : Int → Int} {U : Int → Int → Int} {M F : zMem} (h : zLw t many V U M F) (q : t ≤ t') : zLw t' many V U M F :=
  ⟨h.1, h.2.1, zHi_up h.2.2.1 q, ⟨Int.le_trans h.t0 q, zGd_up h.gd q, h.nn⟩, h.2.2.2.2⟩
theorem zm8_le (many : Int) : zm8 many ≤ many + 1 := by
  unfold zm8
  split <;> omega
theorem zRp_32 {F F' : zMem} (h : zRp 32 F) (e : F' (32 + 6) = F (32 + 6)) : zRp 32 F' := by
  unfold zRp at *
  rw [e]
  exact h
theorem zLw.chg {t t' many : Int} {V W : Int → Int} {U : Int → Int → Int} {M F M' F' : zMem} (h : zLw t many V U M F) (hR : zRS 1 W M' F') (hH : zHi t (zm8 many) (zcons V U) M' F') (hF : zFr M F M' F') (ht : t ≤ t') (hG : zGd t' W) (hN : zNn W) : zLw t' (zm8 many) W (zcons V U) M' F' := by
  obtain ⟨a1, a2, a3, a4, a5, ⟨T, n, a6, a7⟩, a8⟩ := h
  refine ⟨hR, zRp_32 a2 (hF (32 + 6) (by omega) (by omega)).2, zHi_up hH ht, ⟨Int.le_trans a4.1 ht, hG, hN⟩, fun k k0 k1 => ?_, ⟨T, n, ?_, a7⟩, ?_⟩
  · have := zm8_le many
    show zNn (if k = 0 then V else U (k - 1))
    split
    · exact a4.2.2
    · exact a5 (k - 1) (by omega) (by omega)
  · obtain ⟨b1, b2, b3⟩ := a6
    exact ⟨by rw [(hF 376 (by omega) (by omega)).1]; exact b1, by rw [(hF 375 (by omega) (by omega)).1]; exact b2, b3⟩
  · unfold zOu
    rw [(hF 396 (by omega) (by omega)).1, (hF 397 (by omega) (by omega)).1]
    exact a8
theorem zLw.not {t many : Int} {V : Int → Int} {U : Int → Int → Int} {M F M' F' : zMem} (h : zLw t many V U M F) (hR : zRS 1 V M' F') (hH : zHi t many U M' F') (hF : zFr M F M' F') : zLw t many V U M' F' := by
  obtain ⟨a1, a2, a3, a4, a5, ⟨T, n, a6, a7⟩, a8⟩ := h
  refine ⟨hR, zRp_32 a2 (hF (32 + 6) (by omega) (by omega)).2, hH, a4, a5, ⟨T, n, ?_, a7⟩, ?_⟩
  · obtain ⟨b1, b2, b3⟩ := a6
    exact ⟨by rw [(hF 376 (by omega) (by omega)).1]; exact b1, by rw [(hF 375 (by omega) (by omega)).1]; exact b2, b3⟩
  · unfold zOu
    rw [(hF 396 (by omega) (by omega)).1, (hF 397 (by omega) (by omega)).1]
    exact a8
/-- what a change brings: done, with a State kept, or refused -/
def zChg (t t' many : Int) (V : Int → Int) (U : Int → Int → Int) (M : zMem) (o : zO) (k : Int) (M' F' : zMem) : Prop :=
  ((o.1 = 0 ∧ k = o.2.1 ∧ zLw t' (zm8 many) o.2.2 (zcons V U) M' F') ∨ (0 < o.1 ∧ k = -o.1 ∧ zLw t many V U M' F')) ∧ M' 396 = M 396 ∧ M' 397 = M 397
theorem hq_addChamber (l : Launch) (g : zG) (zX : va_W) (ad : Int → Nat) (M F : zMem) {t many : Int} {V : Int → Int} {U : Int → Int → Int} (hL : zLw t many V U M F) : hMt l yL_addChamber cL_addChamber 2 [(0, 4, 5, 14)] 9 1 6 g zX ad [.ref (ad 0)] M F (zPi (fun k M' F' => zChg t t many V U M (zdAC V) k M' F')) := by
  have hp := @pd_AC V
  have hG : zGd t (zdAC V).2.2 := (zG_AC hL.gd)
  have hN : zNn (zdAC V).2.2 := (zNn_AC hL.iv hL.nn)
  have ht9 := hL.t0
  have hE : ∀ (E : String) (M' F' : zMem), (∃ f, E = zFx f ∧ 0 < f ∧ zFt [4] (zdAC V).1 f ∧ zRS 1 ((zdAC V).2.2) M' F' ∧ zHi t many U M' F' ∧ zFr M F M' F') → E = "java/lang/IllegalStateException" := by
    rintro E M' F' ⟨f, rfl, f0, e2, -⟩
    unfold zFt at e2
    have hc : (zdAC V).1 = 0 ∨ (zdAC V).1 = 1 := by omega
    rcases hc with hc | hc
    · rw [hc] at e2; have e9 : f = 0 := e2; omega
    · rw [hc] at e2; have e9 : f = 4 := e2; subst e9; exact rfl
  refine hMt.mono (ch_addChamber l g zX ad M F _ _ (ct_X11_addChamber l g zX ad M F V t t many U  hL.rs hL.gd hL.hi hG.1) hE) (fun k M' F' h => ?_)
  rcases h with ⟨e2, e1, e4, e5, e6⟩ | ⟨rfl, f, e1, f0, e2, e4, e5, e6⟩
  · have hc : (zdAC V).1 = 0 := by
      unfold zFt at e2
      have hc : (zdAC V).1 = 0 ∨ (zdAC V).1 = 1 := by omega
      rcases hc with hc | hc
      · exact hc
      · rw [hc] at e2; have e9 : (0 : Int) = 4 := e2; exact absurd e9 (by decide)
    exact ⟨Or.inl ⟨hc, by rw [← hp.2.2.1 hc]; exact e1.symm, hL.chg e4 e5 e6 (by omega) hG hN⟩, (e6 396 (by omega) (by omega)).1, (e6 397 (by omega) (by omega)).1⟩
  · unfold zFt at e2
    have hc : (zdAC V).1 = 0 ∨ (zdAC V).1 = 1 := by omega
    rcases hc with hc | hc
    · rw [hc] at e2; have e9 : f = 0 := e2; omega
    · rw [hp.2.1 (by omega)] at e4
      exact ⟨Or.inr ⟨by omega, by rw [hc], hL.not e4 e5 e6⟩, (e6 396 (by omega) (by omega)).1, (e6 397 (by omega) (by omega)).1⟩
theorem hq_addTunnel (l : Launch) (g : zG) (zX : va_W) (ad : Int → Nat) (M F : zMem) {t many : Int} {V : Int → Int} {U : Int → Int → Int} (hL : zLw t many V U M F) (x0 : Int) (hx0 : zR x0) (x1 : Int) (hx1 : zR x1) (x2 : Int) (hx2 : zR x2) : hMt l yL_addTunnel cL_addTunnel 5 [(0, 7, 8, 20), (0, 7, 12, 22), (0, 7, 17, 14)] 9 1 6 g zX ad [.ref (ad 0), .int (zI x0), .int (zI x1), .int (zI x2)] M F (zPi (fun k M' F' => zChg t t many V U M (zdAT x0 x1 x2 V) k M' F')) := by
  have hp := @pd_AT x0 x1 x2 V
  have hG : zGd t (zdAT x0 x1 x2 V).2.2 := (zG_AT hL.gd)
  have hN : zNn (zdAT x0 x1 x2 V).2.2 := (zNn_AT hL.iv hL.nn)
  have ht9 := hL.t0
  have hE : ∀ (E : String) (M' F' : zMem), (∃ f, E = zFx f ∧ 0 < f ∧ zFt [1, 3, 4] (zdAT x0 x1 x2 V).1 f ∧ zRS 1 ((zdAT x0 x1 x2 V).2.2) M' F' ∧ zHi t many U M' F' ∧ zFr M F M' F') → E = "java/lang/IndexOutOfBoundsException" ∨ E = "java/lang/IllegalArgumentException" ∨ E = "java/lang/IllegalStateException" := by
    rintro E M' F' ⟨f, rfl, f0, e2, -⟩
    unfold zFt at e2
    have hc : (zdAT x0 x1 x2 V).1 = 0 ∨ (zdAT x0 x1 x2 V).1 = 1 ∨ (zdAT x0 x1 x2 V).1 = 2 ∨ (zdAT x0 x1 x2 V).1 = 3 := by omega
    rcases hc with hc | hc | hc | hc
    · rw [hc] at e2; have e9 : f = 0 := e2; omega
    · rw [hc] at e2; have e9 : f = 1 := e2; subst e9; exact (Or.inl rfl)
    · rw [hc] at e2; have e9 : f = 3 := e2; subst e9; exact (Or.inr (Or.inl rfl))
    · rw [hc] at e2; have e9 : f = 4 := e2; subst e9; exact (Or.inr (Or.inr rfl))
  refine hMt.mono (ch_addTunnel l g zX ad M F x0 x1 x2 _ _ (ct_X11_addTunnel l g zX ad M F V t t many U x0 hx0 x1 hx1 x2 hx2 hL.rs hL.gd hL.hi hL.tn hG.1) hE) (fun k M' F' h => ?_)
  rcases h with ⟨e2, e1, e4, e5, e6⟩ | ⟨rfl, f, e1, f0, e2, e4, e5, e6⟩ | ⟨rfl, f, e1, f0, e2, e4, e5, e6⟩ | ⟨rfl, f, e1, f0, e2, e4, e5, e6⟩
  · have hc : (zdAT x0 x1 x2 V).1 = 0 := by
      unfold zFt at e2
      have hc : (zdAT x0 x1 x2 V).1 = 0 ∨ (zdAT x0 x1 x2 V).1 = 1 ∨ (zdAT x0 x1 x2 V).1 = 2 ∨ (zdAT x0 x1 x2 V).1 = 3 := by omega
      rcases hc with hc | hc | hc | hc
      · exact hc
      · rw [hc] at e2; have e9 : (0 : Int) = 1 := e2; exact absurd e9 (by decide)
      · rw [hc] at e2; have e9 : (0 : Int) = 3 := e2; exact absurd e9 (by decide)
      · rw [hc] at e2; have e9 : (0 : Int) = 4 := e2; exact absurd e9 (by decide)
    exact ⟨Or.inl ⟨hc, by rw [← hp.2.2.1 hc]; exact e1.symm, hL.chg e4 e5 e6 (by omega) hG hN⟩, (e6 396 (by omega) (by omega)).1, (e6 397 (by omega) (by omega)).1⟩
  · unfold zFt at e2
    have hc : (zdAT x0 x1 x2 V).1 = 0 ∨ (zdAT x0 x1 x2 V).1 = 1 ∨ (zdAT x0 x1 x2 V).1 = 2 ∨ (zdAT x0 x1 x2 V).1 = 3 := by omega
    rcases hc with hc | hc | hc | hc
    · rw [hc] at e2; have e9 : f = 0 := e2; omega
    · rw [hp.2.1 (by omega)] at e4
      exact ⟨Or.inr ⟨by omega, by rw [hc], hL.not e4 e5 e6⟩, (e6 396 (by omega) (by omega)).1, (e6 397 (by omega) (by omega)).1⟩
    · rw [hc] at e2; have e9 : f = 3 := e2; subst e9; exact absurd e1 (by decide)
    · rw [hc] at e2; have e9 : f = 4 := e2; subst e9; exact absurd e1 (by decide)
  · unfold zFt at e2
    have hc : (zdAT x0 x1 x2 V).1 = 0 ∨ (zdAT x0 x1 x2 V).1 = 1 ∨ (zdAT x0 x1 x2 V).1 = 2 ∨ (zdAT x0 x1 x2 V).1 = 3 := by omega
    rcases hc with hc | hc | hc | hc
    · rw [hc] at e2; have e9 : f = 0 := e2; omega
    · rw [hc] at e2; have e9 : f = 1 := e2; subst e9; exact absurd e1 (by decide)
    · rw [hp.2.1 (by omega)] at e4
      exact ⟨Or.inr ⟨by omega, by rw [hc], hL.not e4 e5 e6⟩, (e6 396 (by omega) (by omega)).1, (e6 397 (by omega) (by omega)).1⟩
    · rw [hc] at e2; have e9 : f = 4 := e2; subst e9; exact absurd e1 (by decide)
  · unfold zFt at e2
    have hc : (zdAT x0 x1 x2 V).1 = 0 ∨ (zdAT x0 x1 x2 V).1 = 1 ∨ (zdAT x0 x1 x2 V).1 = 2 ∨ (zdAT x0 x1 x2 V).1 = 3 := by omega
    rcases hc with hc | hc | hc | hc
    · rw [hc] at e2; have e9 : f = 0 := e2; omega
    · rw [hc] at e2; have e9 : f = 1 := e2; subst e9; exact absurd e1 (by decide)
    · rw [hc] at e2; have e9 : f = 3 := e2; subst e9; exact absurd e1 (by decide)
    · rw [hp.2.1 (by omega)] at e4
      exact ⟨Or.inr ⟨by omega, by rw [hc], hL.not e4 e5 e6⟩, (e6 396 (by omega) (by omega)).1, (e6 397 (by omega) (by omega)).1⟩
theorem hq_removeTunnel (l : Launch) (g : zG) (zX : va_W) (ad : Int → Nat) (M F : zMem) {t many : Int} {V : Int → Int} {U : Int → Int → Int} (hL : zLw t many V U M F) (x0 : Int) (hx0 : zR x0) (x1 : Int) (hx1 : zR x1) : hMt l yL_removeTunnel cL_removeTunnel 4 [(0, 6, 7, 20), (0, 6, 10, 28)] 9 1 6 g zX ad [.ref (ad 0), .int (zI x0), .int (zI x1)] M F (zPi (fun k M' F' => zChg t t many V U M (zdRT x0 x1 V) k M' F')) := by
  have hp := @pd_RT x0 x1 V
  have hG : zGd t (zdRT x0 x1 V).2.2 := (zG_RT hL.gd)
  have hN : zNn (zdRT x0 x1 V).2.2 := (zNn_RT hL.iv hL.nn)
  have ht9 := hL.t0
  have hE : ∀ (E : String) (M' F' : zMem), (∃ f, E = zFx f ∧ 0 < f ∧ zFt [1, 2] (zdRT x0 x1 V).1 f ∧ zRS 1 ((zdRT x0 x1 V).2.2) M' F' ∧ zHi t many U M' F' ∧ zFr M F M' F') → E = "java/lang/IndexOutOfBoundsException" ∨ E = "java/util/NoSuchElementException" := by
    rintro E M' F' ⟨f, rfl, f0, e2, -⟩
    unfold zFt at e2
    have hc : (zdRT x0 x1 V).1 = 0 ∨ (zdRT x0 x1 V).1 = 1 ∨ (zdRT x0 x1 V).1 = 2 := by omega
    rcases hc with hc | hc | hc
    · rw [hc] at e2; have e9 : f = 0 := e2; omega
    · rw [hc] at e2; have e9 : f = 1 := e2; subst e9; exact (Or.inl rfl)
    · rw [hc] at e2; have e9 : f = 2 := e2; subst e9; exact (Or.inr rfl)
  refine hMt.mono (ch_removeTunnel l g zX ad M F x0 x1 _ _ (ct_X11_removeTunnel l g zX ad M F V t t many U x0 hx0 x1 hx1 hL.rs hL.gd hL.hi hL.tn hG.1) hE) (fun k M' F' h => ?_)
  rcases h with ⟨e2, e1, e4, e5, e6⟩ | ⟨rfl, f, e1, f0, e2, e4, e5, e6⟩ | ⟨rfl, f, e1, f0, e2, e4, e5, e6⟩
  · have hc : (zdRT x0 x1 V).1 = 0 := by
      unfold zFt at e2
      have hc : (zdRT x0 x1 V).1 = 0 ∨ (zdRT x0 x1 V).1 = 1 ∨ (zdRT x0 x1 V).1 = 2 := by omega
      rcases hc with hc | hc | hc
      · exact hc
      · rw [hc] at e2; have e9 : (0 : Int) = 1 := e2; exact absurd e9 (by decide)
      · rw [hc] at e2; have e9 : (0 : Int) = 2 := e2; exact absurd e9 (by decide)
    exact ⟨Or.inl ⟨hc, by rw [← hp.2.2.1 hc]; exact e1.symm, hL.chg e4 e5 e6 (by omega) hG hN⟩, (e6 396 (by omega) (by omega)).1, (e6 397 (by omega) (by omega)).1⟩
  · unfold zFt at e2
    have hc : (zdRT x0 x1 V).1 = 0 ∨ (zdRT x0 x1 V).1 = 1 ∨ (zdRT x0 x1 V).1 = 2 := by omega
    rcases hc with hc | hc | hc
    · rw [hc] at e2; have e9 : f = 0 := e2; omega
    · rw [hp.2.1 (by omega)] at e4
      exact ⟨Or.inr ⟨by omega, by rw [hc], hL.not e4 e5 e6⟩, (e6 396 (by omega) (by omega)).1, (e6 397 (by omega) (by omega)).1⟩
    · rw [hc] at e2; have e9 : f = 2 := e2; subst e9; exact absurd e1 (by decide)
  · unfold zFt at e2
    have hc : (zdRT x0 x1 V).1 = 0 ∨ (zdRT x0 x1 V).1 = 1 ∨ (zdRT x0 x1 V).1 = 2 := by omega
    rcases hc with hc | hc | hc
    · rw [hc] at e2; have e9 : f = 0 := e2; omega
    · rw [hc] at e2; have e9 : f = 1 := e2; subst e9; exact absurd e1 (by decide)
    · rw [hp.2.1 (by omega)] at e4
      exact ⟨Or.inr ⟨by omega, by rw [hc], hL.not e4 e5 e6⟩, (e6 396 (by omega) (by omega)).1, (e6 397 (by omega) (by omega)).1⟩
theorem hq_addHare (l : Launch) (g : zG) (zX : va_W) (ad : Int → Nat) (M F : zMem) {t many : Int} {V : Int → Int} {U : Int → Int → Int} (hL : zLw t many V U M F) (x0 : Int) (hx0 : zR x0) : hMt l yL_addHare cL_addHare 3 [(0, 5, 6, 20), (0, 5, 9, 14)] 9 1 6 g zX ad [.ref (ad 0), .int (zI x0)] M F (zPi (fun k M' F' => zChg t t many V U M (zdAH x0 V) k M' F')) := by
  have hp := (pd_AH (c := x0) hL.iv.2.1.1)
  have hG : zGd t (zdAH x0 V).2.2 := (zG_AH hL.gd hL.t0)
  have hN : zNn (zdAH x0 V).2.2 := (zNn_AH hL.iv hL.nn)
  have ht9 := hL.t0
  have hE : ∀ (E : String) (M' F' : zMem), (∃ f, E = zFx f ∧ 0 < f ∧ zFt [1, 4] (zdAH x0 V).1 f ∧ zRS 1 ((zdAH x0 V).2.2) M' F' ∧ zHi t many U M' F' ∧ zFr M F M' F') → E = "java/lang/IndexOutOfBoundsException" ∨ E = "java/lang/IllegalStateException" := by
    rintro E M' F' ⟨f, rfl, f0, e2, -⟩
    unfold zFt at e2
    have hc : (zdAH x0 V).1 = 0 ∨ (zdAH x0 V).1 = 1 ∨ (zdAH x0 V).1 = 2 := by omega
    rcases hc with hc | hc | hc
    · rw [hc] at e2; have e9 : f = 0 := e2; omega
    · rw [hc] at e2; have e9 : f = 1 := e2; subst e9; exact (Or.inl rfl)
    · rw [hc] at e2; have e9 : f = 4 := e2; subst e9; exact (Or.inr rfl)
  refine hMt.mono (ch_addHare l g zX ad M F x0 _ _ (ct_X11_addHare l g zX ad M F V t t many U x0 hx0 hL.rs hL.gd hL.hi hG.1) hE) (fun k M' F' h => ?_)
  rcases h with ⟨e2, e1, e4, e5, e6⟩ | ⟨rfl, f, e1, f0, e2, e4, e5, e6⟩ | ⟨rfl, f, e1, f0, e2, e4, e5, e6⟩
  · have hc : (zdAH x0 V).1 = 0 := by
      unfold zFt at e2
      have hc : (zdAH x0 V).1 = 0 ∨ (zdAH x0 V).1 = 1 ∨ (zdAH x0 V).1 = 2 := by omega
      rcases hc with hc | hc | hc
      · exact hc
      · rw [hc] at e2; have e9 : (0 : Int) = 1 := e2; exact absurd e9 (by decide)
      · rw [hc] at e2; have e9 : (0 : Int) = 4 := e2; exact absurd e9 (by decide)
    exact ⟨Or.inl ⟨hc, by rw [← hp.2.2.1 hc]; exact e1.symm, hL.chg e4 e5 e6 (by omega) hG hN⟩, (e6 396 (by omega) (by omega)).1, (e6 397 (by omega) (by omega)).1⟩
  · unfold zFt at e2
    have hc : (zdAH x0 V).1 = 0 ∨ (zdAH x0 V).1 = 1 ∨ (zdAH x0 V).1 = 2 := by omega
    rcases hc with hc | hc | hc
    · rw [hc] at e2; have e9 : f = 0 := e2; omega
    · rw [hp.2.1 (by omega)] at e4
      exact ⟨Or.inr ⟨by omega, by rw [hc], hL.not e4 e5 e6⟩, (e6 396 (by omega) (by omega)).1, (e6 397 (by omega) (by omega)).1⟩
    · rw [hc] at e2; have e9 : f = 4 := e2; subst e9; exact absurd e1 (by decide)
  · unfold zFt at e2
    have hc : (zdAH x0 V).1 = 0 ∨ (zdAH x0 V).1 = 1 ∨ (zdAH x0 V).1 = 2 := by omega
    rcases hc with hc | hc | hc
    · rw [hc] at e2; have e9 : f = 0 := e2; omega
    · rw [hc] at e2; have e9 : f = 1 := e2; subst e9; exact absurd e1 (by decide)
    · rw [hp.2.1 (by omega)] at e4
      exact ⟨Or.inr ⟨by omega, by rw [hc], hL.not e4 e5 e6⟩, (e6 396 (by omega) (by omega)).1, (e6 397 (by omega) (by omega)).1⟩
theorem hq_move (l : Launch) (g : zG) (zX : va_W) (ad : Int → Nat) (M F : zMem) {t many : Int} {V : Int → Int} {U : Int → Int → Int} (hL : zLw t many V U M F) (x0 : Int) (hx0 : zR x0) (x1 : Int) (hx1 : zR x1) : hMt l yL_move cL_move 4 [(0, 6, 7, 20), (0, 6, 10, 14)] 9 1 6 g zX ad [.ref (ad 0), .int (zI x0), .int (zI x1)] M F (zPi (fun k M' F' => zChg t t many V U M (zdMv x0 x1 V) k M' F')) := by
  have hp := @pd_Mv x0 x1 V
  have hG : zGd t (zdMv x0 x1 V).2.2 := (zG_Mv hL.gd)
  have hN : zNn (zdMv x0 x1 V).2.2 := (zNn_Mv hL.iv hL.nn)
  have ht9 := hL.t0
  have hE : ∀ (E : String) (M' F' : zMem), (∃ f, E = zFx f ∧ 0 < f ∧ zFt [1, 4] (zdMv x0 x1 V).1 f ∧ zRS 1 ((zdMv x0 x1 V).2.2) M' F' ∧ zHi t many U M' F' ∧ zFr M F M' F') → E = "java/lang/IndexOutOfBoundsException" ∨ E = "java/lang/IllegalStateException" := by
    rintro E M' F' ⟨f, rfl, f0, e2, -⟩
    unfold zFt at e2
    have hc : (zdMv x0 x1 V).1 = 0 ∨ (zdMv x0 x1 V).1 = 1 ∨ (zdMv x0 x1 V).1 = 2 := by omega
    rcases hc with hc | hc | hc
    · rw [hc] at e2; have e9 : f = 0 := e2; omega
    · rw [hc] at e2; have e9 : f = 1 := e2; subst e9; exact (Or.inl rfl)
    · rw [hc] at e2; have e9 : f = 4 := e2; subst e9; exact (Or.inr rfl)
  refine hMt.mono (ch_move l g zX ad M F x0 x1 _ _ (ct_X11_move l g zX ad M F V t t many U x0 hx0 x1 hx1 hL.rs hL.gd hL.hi hG.1) hE) (fun k M' F' h => ?_)
  rcases h with ⟨e2, e1, e4, e5, e6⟩ | ⟨rfl, f, e1, f0, e2, e4, e5, e6⟩ | ⟨rfl, f, e1, f0, e2, e4, e5, e6⟩
  · have hc : (zdMv x0 x1 V).1 = 0 := by
      unfold zFt at e2
      have hc : (zdMv x0 x1 V).1 = 0 ∨ (zdMv x0 x1 V).1 = 1 ∨ (zdMv x0 x1 V).1 = 2 := by omega
      rcases hc with hc | hc | hc
      · exact hc
      · rw [hc] at e2; have e9 : (0 : Int) = 1 := e2; exact absurd e9 (by decide)
      · rw [hc] at e2; have e9 : (0 : Int) = 4 := e2; exact absurd e9 (by decide)
    exact ⟨Or.inl ⟨hc, by rw [← hp.2.2.1 hc]; exact e1.symm, hL.chg e4 e5 e6 (by omega) hG hN⟩, (e6 396 (by omega) (by omega)).1, (e6 397 (by omega) (by omega)).1⟩
  · unfold zFt at e2
    have hc : (zdMv x0 x1 V).1 = 0 ∨ (zdMv x0 x1 V).1 = 1 ∨ (zdMv x0 x1 V).1 = 2 := by omega
    rcases hc with hc | hc | hc
    · rw [hc] at e2; have e9 : f = 0 := e2; omega
    · rw [hp.2.1 (by omega)] at e4
      exact ⟨Or.inr ⟨by omega, by rw [hc], hL.not e4 e5 e6⟩, (e6 396 (by omega) (by omega)).1, (e6 397 (by omega) (by omega)).1⟩
    · rw [hc] at e2; have e9 : f = 4 := e2; subst e9; exact absurd e1 (by decide)
  · unfold zFt at e2
    have hc : (zdMv x0 x1 V).1 = 0 ∨ (zdMv x0 x1 V).1 = 1 ∨ (zdMv x0 x1 V).1 = 2 := by omega
    rcases hc with hc | hc | hc
    · rw [hc] at e2; have e9 : f = 0 := e2; omega
    · rw [hc] at e2; have e9 : f = 1 := e2; subst e9; exact absurd e1 (by decide)
    · rw [hp.2.1 (by omega)] at e4
      exact ⟨Or.inr ⟨by omega, by rw [hc], hL.not e4 e5 e6⟩, (e6 396 (by omega) (by omega)).1, (e6 397 (by omega) (by omega)).1⟩
theorem hq_say (l : Launch) (g : zG) (zX : va_W) (ad : Int → Nat) (M F : zMem) {t many : Int} {V : Int → Int} {U : Int → Int → Int} (hL : zLw t many V U M F) (x0 : Int) (hx0 : zR x0) (x1 : Int) (hx1 : zR x1) (x2 : Int) (hx2 : zR x2) (ht : t ≤ 70000000) : hMt l yL_say cL_say 5 [(0, 7, 8, 20), (0, 7, 12, 22), (0, 7, 17, 14)] 9 1 6 g zX ad [.ref (ad 0), .int (zI x0), .int (zI x1), .int (zI x2)] M F (zPi (fun k M' F' => zChg t (t + 1) many V U M (zdSay x0 x1 x2 V) k M' F')) := by
  have hp := @pd_Say x0 x1 x2 V
  have hG : zGd (t + 1) (zdSay x0 x1 x2 V).2.2 := (zG_Say hL.gd)
  have hN : zNn (zdSay x0 x1 x2 V).2.2 := (zNn_Say hL.iv hL.nn)
  have ht9 := hL.t0
  have hE : ∀ (E : String) (M' F' : zMem), (∃ f, E = zFx f ∧ 0 < f ∧ zFt [1, 3, 4] (zdSay x0 x1 x2 V).1 f ∧ zRS 1 ((zdSay x0 x1 x2 V).2.2) M' F' ∧ zHi t many U M' F' ∧ zFr M F M' F') → E = "java/lang/IndexOutOfBoundsException" ∨ E = "java/lang/IllegalArgumentException" ∨ E = "java/lang/IllegalStateException" := by
    rintro E M' F' ⟨f, rfl, f0, e2, -⟩
    unfold zFt at e2
    have hc : (zdSay x0 x1 x2 V).1 = 0 ∨ (zdSay x0 x1 x2 V).1 = 1 ∨ (zdSay x0 x1 x2 V).1 = 2 ∨ (zdSay x0 x1 x2 V).1 = 3 := by omega
    rcases hc with hc | hc | hc | hc
    · rw [hc] at e2; have e9 : f = 0 := e2; omega
    · rw [hc] at e2; have e9 : f = 1 := e2; subst e9; exact (Or.inl rfl)
    · rw [hc] at e2; have e9 : f = 3 := e2; subst e9; exact (Or.inr (Or.inl rfl))
    · rw [hc] at e2; have e9 : f = 4 := e2; subst e9; exact (Or.inr (Or.inr rfl))
  refine hMt.mono (ch_say l g zX ad M F x0 x1 x2 _ _ (ct_X11_say l g zX ad M F V t (t + 1) many U x0 hx0 x1 hx1 x2 hx2 hL.rs hL.gd hL.hi (by have := (hL.iv.2.2.2.1 3 (by decide) (by decide)).2; omega) hG.1) hE) (fun k M' F' h => ?_)
  rcases h with ⟨e2, e1, e4, e5, e6⟩ | ⟨rfl, f, e1, f0, e2, e4, e5, e6⟩ | ⟨rfl, f, e1, f0, e2, e4, e5, e6⟩ | ⟨rfl, f, e1, f0, e2, e4, e5, e6⟩
  · have hc : (zdSay x0 x1 x2 V).1 = 0 := by
      unfold zFt at e2
      have hc : (zdSay x0 x1 x2 V).1 = 0 ∨ (zdSay x0 x1 x2 V).1 = 1 ∨ (zdSay x0 x1 x2 V).1 = 2 ∨ (zdSay x0 x1 x2 V).1 = 3 := by omega
      rcases hc with hc | hc | hc | hc
      · exact hc
      · rw [hc] at e2; have e9 : (0 : Int) = 1 := e2; exact absurd e9 (by decide)
      · rw [hc] at e2; have e9 : (0 : Int) = 3 := e2; exact absurd e9 (by decide)
      · rw [hc] at e2; have e9 : (0 : Int) = 4 := e2; exact absurd e9 (by decide)
    exact ⟨Or.inl ⟨hc, by rw [← hp.2.2.1 hc]; exact e1.symm, hL.chg e4 e5 e6 (by omega) hG hN⟩, (e6 396 (by omega) (by omega)).1, (e6 397 (by omega) (by omega)).1⟩
  · unfold zFt at e2
    have hc : (zdSay x0 x1 x2 V).1 = 0 ∨ (zdSay x0 x1 x2 V).1 = 1 ∨ (zdSay x0 x1 x2 V).1 = 2 ∨ (zdSay x0 x1 x2 V).1 = 3 := by omega
    rcases hc with hc | hc | hc | hc
    · rw [hc] at e2; have e9 : f = 0 := e2; omega
    · rw [hp.2.1 (by omega)] at e4
      exact ⟨Or.inr ⟨by omega, by rw [hc], hL.not e4 e5 e6⟩, (e6 396 (by omega) (by omega)).1, (e6 397 (by omega) (by omega)).1⟩
    · rw [hc] at e2; have e9 : f = 3 := e2; subst e9; exact absurd e1 (by decide)
    · rw [hc] at e2; have e9 : f = 4 := e2; subst e9; exact absurd e1 (by decide)
  · unfold zFt at e2
    have hc : (zdSay x0 x1 x2 V).1 = 0 ∨ (zdSay x0 x1 x2 V).1 = 1 ∨ (zdSay x0 x1 x2 V).1 = 2 ∨ (zdSay x0 x1 x2 V).1 = 3 := by omega
    rcases hc with hc | hc | hc | hc
    · rw [hc] at e2; have e9 : f = 0 := e2; omega
    · rw [hc] at e2; have e9 : f = 1 := e2; subst e9; exact absurd e1 (by decide)
    · rw [hp.2.1 (by omega)] at e4
      exact ⟨Or.inr ⟨by omega, by rw [hc], hL.not e4 e5 e6⟩, (e6 396 (by omega) (by omega)).1, (e6 397 (by omega) (by omega)).1⟩
    · rw [hc] at e2; have e9 : f = 4 := e2; subst e9; exact absurd e1 (by decide)
  · unfold zFt at e2
    have hc : (zdSay x0 x1 x2 V).1 = 0 ∨ (zdSay x0 x1 x2 V).1 = 1 ∨ (zdSay x0 x1 x2 V).1 = 2 ∨ (zdSay x0 x1 x2 V).1 = 3 := by omega
    rcases hc with hc | hc | hc | hc
    · rw [hc] at e2; have e9 : f = 0 := e2; omega
    · rw [hc] at e2; have e9 : f = 1 := e2; subst e9; exact absurd e1 (by decide)
    · rw [hc] at e2; have e9 : f = 3 := e2; subst e9; exact absurd e1 (by decide)
    · rw [hp.2.1 (by omega)] at e4
      exact ⟨Or.inr ⟨by omega, by rw [hc], hL.not e4 e5 e6⟩, (e6 396 (by omega) (by omega)).1, (e6 397 (by omega) (by omega)).1⟩
theorem hq_forget (l : Launch) (g : zG) (zX : va_W) (ad : Int → Nat) (M F : zMem) {t many : Int} {V : Int → Int} {U : Int → Int → Int} (hL : zLw t many V U M F) (x0 : Int) (hx0 : zR x0) : hMt l yL_forget cL_forget 3 [(0, 5, 6, 28), (0, 5, 9, 14)] 9 1 6 g zX ad [.ref (ad 0), .int (zI x0)] M F (zPi (fun k M' F' => zChg t t many V U M (zdFo x0 V) k M' F')) := by
  have hp := @pd_Fo x0 V
  have hG : zGd t (zdFo x0 V).2.2 := (zG_Fo hL.gd)
  have hN : zNn (zdFo x0 V).2.2 := (zNn_Fo hL.iv hL.nn)
  have ht9 := hL.t0
  have hE : ∀ (E : String) (M' F' : zMem), (∃ f, E = zFx f ∧ 0 < f ∧ zFt [2, 4] (zdFo x0 V).1 f ∧ zRS 1 ((zdFo x0 V).2.2) M' F' ∧ zHi t many U M' F' ∧ zFr M F M' F') → E = "java/util/NoSuchElementException" ∨ E = "java/lang/IllegalStateException" := by
    rintro E M' F' ⟨f, rfl, f0, e2, -⟩
    unfold zFt at e2
    have hc : (zdFo x0 V).1 = 0 ∨ (zdFo x0 V).1 = 1 ∨ (zdFo x0 V).1 = 2 := by omega
    rcases hc with hc | hc | hc
    · rw [hc] at e2; have e9 : f = 0 := e2; omega
    · rw [hc] at e2; have e9 : f = 2 := e2; subst e9; exact (Or.inl rfl)
    · rw [hc] at e2; have e9 : f = 4 := e2; subst e9; exact (Or.inr rfl)
  refine hMt.mono (ch_forget l g zX ad M F x0 _ _ (ct_X11_forget l g zX ad M F V t t many U x0 hx0 hL.rs hL.gd hL.hi hG.1) hE) (fun k M' F' h => ?_)
  rcases h with ⟨e2, e1, e4, e5, e6⟩ | ⟨rfl, f, e1, f0, e2, e4, e5, e6⟩ | ⟨rfl, f, e1, f0, e2, e4, e5, e6⟩
  · have hc : (zdFo x0 V).1 = 0 := by
      unfold zFt at e2
      have hc : (zdFo x0 V).1 = 0 ∨ (zdFo x0 V).1 = 1 ∨ (zdFo x0 V).1 = 2 := by omega
      rcases hc with hc | hc | hc
      · exact hc
      · rw [hc] at e2; have e9 : (0 : Int) = 2 := e2; exact absurd e9 (by decide)
      · rw [hc] at e2; have e9 : (0 : Int) = 4 := e2; exact absurd e9 (by decide)
    exact ⟨Or.inl ⟨hc, by rw [← hp.2.2.1 hc]; exact e1.symm, hL.chg e4 e5 e6 (by omega) hG hN⟩, (e6 396 (by omega) (by omega)).1, (e6 397 (by omega) (by omega)).1⟩
  · unfold zFt at e2
    have hc : (zdFo x0 V).1 = 0 ∨ (zdFo x0 V).1 = 1 ∨ (zdFo x0 V).1 = 2 := by omega
    rcases hc with hc | hc | hc
    · rw [hc] at e2; have e9 : f = 0 := e2; omega
    · rw [hp.2.1 (by omega)] at e4
      exact ⟨Or.inr ⟨by omega, by rw [hc], hL.not e4 e5 e6⟩, (e6 396 (by omega) (by omega)).1, (e6 397 (by omega) (by omega)).1⟩
    · rw [hc] at e2; have e9 : f = 4 := e2; subst e9; exact absurd e1 (by decide)
  · unfold zFt at e2
    have hc : (zdFo x0 V).1 = 0 ∨ (zdFo x0 V).1 = 1 ∨ (zdFo x0 V).1 = 2 := by omega
    rcases hc with hc | hc | hc
    · rw [hc] at e2; have e9 : f = 0 := e2; omega
    · rw [hc] at e2; have e9 : f = 2 := e2; subst e9; exact absurd e1 (by decide)
    · rw [hp.2.1 (by omega)] at e4
      exact ⟨Or.inr ⟨by omega, by rw [hc], hL.not e4 e5 e6⟩, (e6 396 (by omega) (by omega)).1, (e6 397 (by omega) (by omega)).1⟩
theorem hq_listen (l : Launch) (g : zG) (zX : va_W) (ad : Int → Nat) (M F : zMem) {t many : Int} {V : Int → Int} {U : Int → Int → Int} (hL : zLw t many V U M F) (x0 : Int) (hx0 : zR x0) (P : Prop) [Decidable P] : hMt l yL_listen cL_listen 4 [(0, 14, 15, 20)] 9 1 6 g zX ad [.ref (ad 0), .int (zI x0), .int (zI (zb P))] M F (zPi (fun k M' F' => zChg t t many V U M (zdLi x0 P V) k M' F')) := by
  have hp := @pd_Li x0 P _ V
  have hG : zGd t (zdLi x0 P V).2.2 := (zG_Li (x := x0) (P := P) hL.gd)
  have hN : zNn (zdLi x0 P V).2.2 := (zNn_Li (x := x0) (P := P) hL.iv hL.nn)
  have ht9 := hL.t0
  have hE : ∀ (E : String) (M' F' : zMem), (∃ f, E = zFx f ∧ 0 < f ∧ zFt [1] (zdLi x0 P V).1 f ∧ zRS 1 ((zdLi x0 P V).2.2) M' F' ∧ zHi t many U M' F' ∧ zFr M F M' F') → E = "java/lang/IndexOutOfBoundsException" := by
    rintro E M' F' ⟨f, rfl, f0, e2, -⟩
    unfold zFt at e2
    have hc : (zdLi x0 P V).1 = 0 ∨ (zdLi x0 P V).1 = 1 := by omega
    rcases hc with hc | hc
    · rw [hc] at e2; have e9 : f = 0 := e2; omega
    · rw [hc] at e2; have e9 : f = 1 := e2; subst e9; exact rfl
  refine hMt.mono (ch_listen l g zX ad M F x0 (zb P) _ _ (ct_X11_setListening l g zX ad M F V t t many U x0 hx0 P hL.rs hL.gd hL.hi hG.1) hE (fun r M' F' h => by rw [← h.2.1]; split; exact (hL.iv.2.2.2.2.2.1 x0 (by assumption : zisH V x0).1 (by assumption : zisH V x0).2).2.1; exact Or.inl rfl)) (fun k M' F' h => ?_)
  rcases h with ⟨e2, e1, e4, e5, e6⟩ | ⟨rfl, f, e1, f0, e2, e4, e5, e6⟩
  · have hc : (zdLi x0 P V).1 = 0 := by
      unfold zFt at e2
      have hc : (zdLi x0 P V).1 = 0 ∨ (zdLi x0 P V).1 = 1 := by omega
      rcases hc with hc | hc
      · exact hc
      · rw [hc] at e2; have e9 : (0 : Int) = 1 := e2; exact absurd e9 (by decide)
    exact ⟨Or.inl ⟨hc, by rw [← hp.2.2.1 hc]; exact e1.symm, hL.chg e4 e5 e6 (by omega) hG hN⟩, (e6 396 (by omega) (by omega)).1, (e6 397 (by omega) (by omega)).1⟩
  · unfold zFt at e2
    have hc : (zdLi x0 P V).1 = 0 ∨ (zdLi x0 P V).1 = 1 := by omega
    rcases hc with hc | hc
    · rw [hc] at e2; have e9 : f = 0 := e2; omega
    · rw [hp.2.1 (by omega)] at e4
      exact ⟨Or.inr ⟨by omega, by rw [hc], hL.not e4 e5 e6⟩, (e6 396 (by omega) (by omega)).1, (e6 397 (by omega) (by omega)).1⟩
theorem zG_PTu {t n : Int} {V : Int → Int} (hG : zGd t V) (ht : 0 ≤ t) (n0 : 0 ≤ n) : zGd (t + 17 * n) (zdPT n V).2.2 := by
  by_cases h : 1 ≤ n ∧ n ≤ 40
  · exact (zG_PT hG n0).resolve_right (fun z => z h)
  · unfold zdPT
    rw [if_pos h]
    exact zGd_up hG (by omega)
theorem hq_pass (l : Launch) (g : zG) (zX : va_W) (ad : Int → Nat) (M F : zMem) {t many : Int} {V : Int → Int} {U : Int → Int → Int} (hL : zLw t many V U M F) (x0 : Int) (hx0 : zR x0) (h09 : 0 ≤ x0) (h19 : x0 ≤ 1000) (ht : t ≤ 70000000) : hMt l yL_pass cL_pass 3 [(0, 5, 6, 22)] 9 1 6 g zX ad [.ref (ad 0), .int (zI x0)] M F (zPi (fun k M' F' => zChg t (t + 17 * x0) many V U M (zdPT x0 V) k M' F')) := by
  have hp := (pd_PT (x := x0) hL.gd)
  have hG : zGd (t + 17 * x0) (zdPT x0 V).2.2 := (zG_PTu (n := x0) hL.gd hL.t0 h09)
  have hN : zNn (zdPT x0 V).2.2 := (zNn_PT (n := x0) hL.gd hL.nn)
  have ht9 := hL.t0
  have hE : ∀ (E : String) (M' F' : zMem), (∃ f, E = zFx f ∧ 0 < f ∧ zFt [3] (zdPT x0 V).1 f ∧ zRS 1 ((zdPT x0 V).2.2) M' F' ∧ zHi t many U M' F' ∧ zFr M F M' F') → E = "java/lang/IllegalArgumentException" := by
    rintro E M' F' ⟨f, rfl, f0, e2, -⟩
    unfold zFt at e2
    have hc : (zdPT x0 V).1 = 0 ∨ (zdPT x0 V).1 = 1 := by omega
    rcases hc with hc | hc
    · rw [hc] at e2; have e9 : f = 0 := e2; omega
    · rw [hc] at e2; have e9 : f = 3 := e2; subst e9; exact rfl
  refine hMt.mono (ch_pass l g zX ad M F x0 _ _ (ct_X11_passTicks l g zX ad M F V t (t + 17 * x0) many U x0 hx0 hL.rs hL.gd hL.hi (by omega) (by omega) hG.1) hE) (fun k M' F' h => ?_)
  rcases h with ⟨e2, e1, e4, e5, e6⟩ | ⟨rfl, f, e1, f0, e2, e4, e5, e6⟩
  · have hc : (zdPT x0 V).1 = 0 := by
      unfold zFt at e2
      have hc : (zdPT x0 V).1 = 0 ∨ (zdPT x0 V).1 = 1 := by omega
      rcases hc with hc | hc
      · exact hc
      · rw [hc] at e2; have e9 : (0 : Int) = 3 := e2; exact absurd e9 (by decide)
    exact ⟨Or.inl ⟨hc, by rw [← hp.2.2.1 hc]; exact e1.symm, hL.chg e4 e5 e6 (by omega) hG hN⟩, (e6 396 (by omega) (by omega)).1, (e6 397 (by omega) (by omega)).1⟩
  · unfold zFt at e2
    have hc : (zdPT x0 V).1 = 0 ∨ (zdPT x0 V).1 = 1 := by omega
    rcases hc with hc | hc
    · rw [hc] at e2; have e9 : f = 0 := e2; omega
    · rw [hp.2.1 (by omega)] at e4
      exact ⟨Or.inr ⟨by omega, by rw [hc], hL.not e4 e5 e6⟩, (e6 396 (by omega) (by omega)).1, (e6 397 (by omega) (by omega)).1⟩
