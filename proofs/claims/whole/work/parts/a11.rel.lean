/-! the class's world and the model's agree -/
def zCK (t : Int) (V : Int → Int) (sv : Int) (S : Int → Int) (many : Int) (U : Int → Int → Int) (ep fc : Int) (T : Int → Int) (n : Int) (M F : zMem) : Prop :=
  zRS 1 V M F ∧ (zRp 32 F ∧ zRp 63 F) ∧ (M 0 6 = sv ∧ (sv = 1 → zRS 63 S M F)) ∧ zHi t many U M F ∧ (M 0 7 = ep ∧ M 0 8 = fc) ∧ zCS T n M
def zCM (V : Int → Int) (sv : Int) (S : Int → Int) (many : Int) (U : Int → Int → Int) (ep fc : Int) (T : Int → Int) (n : Int) (M : zMem) : Prop :=
  M 399 = V ∧ (M 398 4 = sv ∧ (sv = 1 → M 402 = S)) ∧ (M 398 6 = many ∧ ∀ k j, 0 ≤ k → k < many → 0 ≤ j → j < 1496 → M 403 (1496 * (many - 1 - k) + j) = U k j) ∧ ((M 398 15 = ep ∧ -1 ≤ ep) ∧ M 398 16 = fc ∧ -1 ≤ fc) ∧ (M 406 = T ∧ M 398 12 = n)
def zCB (t d : Int) (V : Int → Int) (sv : Int) (S : Int → Int) (many : Int) (U : Int → Int → Int) (T : Int → Int) : Prop :=
  (0 ≤ t ∧ zGd t V ∧ V 3 ≤ d) ∧ ((sv = 0 ∨ sv = 1) ∧ (sv = 1 → zGd t S ∧ S 3 ≤ d)) ∧ (∀ k, 0 ≤ k → k < many → U k 3 ≤ d ∧ ∀ j, zR (U k j)) ∧ ∀ j, 0 ≤ T j ∧ T j < 65536
def zCO (M : zMem) : Prop := zTE M M ∧ M 396 3 ≤ 16
def zCR (t d : Int) (M F : zMem) : Prop :=
  ∃ (V : Int → Int) (sv : Int) (S : Int → Int) (many : Int) (U : Int → Int → Int) (ep fc : Int) (T : Int → Int) (n : Int), zCK t V sv S many U ep fc T n M F ∧ zCM V sv S many U ep fc T n M ∧ zCB t d V sv S many U T ∧ zCO M
theorem zTE_in {M K M' K' : zMem} (h : zTE M K) (h1 : M' 396 = M 396) (h2 : M' 397 = M 397) (h3 : K' 398 10 = K 398 10) (h4 : K' 405 = K 405) : zTE M' K' := by
  obtain ⟨a1, a2, a3, a4⟩ := h
  refine ⟨by rw [h1]; exact a1, by rw [h1]; exact a2, by rw [h1, h3]; exact a3, fun j j0 j1 => ?_⟩
  rw [h1] at j1
  rw [h2, h4]
  exact a4 j j0 j1
theorem zCO_in {M M' : zMem} (h : zCO M) (h1 : M' 396 = M 396) (h2 : M' 397 = M 397) (h3 : M' 398 10 = M 398 10) (h4 : M' 405 = M 405) : zCO M' := ⟨zTE_in h.1 h1 h2 h3 h4, by rw [h1]; exact h.2⟩
theorem zGd_up {t t' : Int} {V : Int → Int} (h : zGd t V) (q : t ≤ t') : zGd t' V := ⟨zIV_mono h.1 q, h.2⟩
theorem zHi_up {t t' many : Int} {U : Int → Int → Int} {M F : zMem} (h : zHi t many U M F) (q : t ≤ t') : zHi t' many U M F := ⟨h.1, h.2.1, h.2.2.1, fun k k0 k1 => ⟨(h.2.2.2.1 k k0 k1).1, zGd_up (h.2.2.2.1 k k0 k1).2 q⟩, h.2.2.2.2⟩
theorem zGd.b1 {t : Int} {V : Int → Int} (h : zGd t V) : V 1 ≤ 6 := h.1.2.1.2
theorem zGd.b2 {t : Int} {V : Int → Int} (h : zGd t V) : V 2 ≤ 8 := h.1.2.2.1.2
theorem zCK_in {V S T : Int → Int} {U : Int → Int → Int} {t sv many ep fc n : Int} {M F M' F' : zMem} (h : zCK t V sv S many U ep fc T n M F) (hG : zGd t V) (hS : sv = 1 → zGd t S) (hc : ∀ i, 0 ≤ i → i < 396 → i ≠ 5 → ¬(32 ≤ i ∧ i < 63) → M' i = M i ∧ F' i = F i) (h32 : zRp 32 F') : zCK t V sv S many U ep fc T n M' F' := by
  obtain ⟨a1, ⟨a2, a3⟩, ⟨a4, a5⟩, a6, a7, a8⟩ := h
  have e0 := (hc 0 (by omega) (by omega) (by omega) (by omega)).1
  refine ⟨zRS_but a1 hG.b1 hG.b2 (fun i i0 i1 i2 => hc i (by omega) (by omega) (by omega) (by omega)), ⟨h32, zRp_in a3 (hc (63 + 6) (by omega) (by omega) (by omega) (by omega)).2⟩, ⟨by rw [e0]; exact a4, fun q => zRS_in (a5 q) (hS q).b1 (hS q).b2 (fun i i0 i1 => hc i (by omega) (by omega) (by omega) (by omega))⟩, zHi_in a6 (fun i i0 i1 => hc i (by omega) (by omega) (by omega) (by omega)), ⟨by rw [e0]; exact a7.1, by rw [e0]; exact a7.2⟩, ?_⟩
  obtain ⟨b1, b2, b3⟩ := a8
  exact ⟨by rw [(hc 376 (by omega) (by omega) (by omega) (by omega)).1]; exact b1, by rw [(hc 375 (by omega) (by omega) (by omega) (by omega)).1]; exact b2, b3⟩
theorem zCM_in {V S T : Int → Int} {U : Int → Int → Int} {sv many ep fc n : Int} {M M' : zMem} (h : zCM V sv S many U ep fc T n M) (hm : ∀ i, 399 ≤ i → i < 408 → i ≠ 400 → i ≠ 401 → i ≠ 404 → i ≠ 405 → i ≠ 407 → M' i = M i) (h8 : ∀ j, j ≠ 8 → j ≠ 10 → j ≠ 13 → j ≠ 14 → j ≠ 18 → M' 398 j = M 398 j) : zCM V sv S many U ep fc T n M' := by
  obtain ⟨a1, ⟨a2, a3⟩, ⟨a4, a5⟩, ⟨⟨a6, g6⟩, a7, g7⟩, a8, a9⟩ := h
  refine ⟨(hm 399 (by omega) (by omega) (by omega) (by omega) (by omega) (by omega) (by omega)).trans a1, ⟨(h8 4 (by omega) (by omega) (by omega) (by omega) (by omega)).trans a2, fun q => (hm 402 (by omega) (by omega) (by omega) (by omega) (by omega) (by omega) (by omega)).trans (a3 q)⟩, ⟨(h8 6 (by omega) (by omega) (by omega) (by omega) (by omega)).trans a4, fun k j k0 k1 j0 j1 => ?_⟩, ⟨⟨(h8 15 (by omega) (by omega) (by omega) (by omega) (by omega)).trans a6, g6⟩, (h8 16 (by omega) (by omega) (by omega) (by omega) (by omega)).trans a7, g7⟩, (hm 406 (by omega) (by omega) (by omega) (by omega) (by omega) (by omega) (by omega)).trans a8, (h8 12 (by omega) (by omega) (by omega) (by omega) (by omega)).trans a9⟩
  rw [hm 403 (by omega) (by omega) (by omega) (by omega) (by omega) (by omega) (by omega)]
  exact a5 k j k0 k1 j0 j1
theorem zCB_up {V S T : Int → Int} {U : Int → Int → Int} {t t' d d' sv many : Int} (h : zCB t d V sv S many U T) (q : t ≤ t') (q' : d ≤ d') : zCB t' d' V sv S many U T := by
  obtain ⟨⟨a1, a2, a3⟩, ⟨a4, a5⟩, a6, a7⟩ := h
  exact ⟨⟨by omega, zGd_up a2 q, by omega⟩, ⟨a4, fun z => ⟨zGd_up (a5 z).1 q, by have := (a5 z).2; omega⟩⟩, fun k k0 k1 => ⟨by have := (a6 k k0 k1).1; omega, (a6 k k0 k1).2⟩, a7⟩
theorem zCK_up {V S T : Int → Int} {U : Int → Int → Int} {t t' sv many ep fc n : Int} {M F : zMem} (h : zCK t V sv S many U ep fc T n M F) (q : t ≤ t') : zCK t' V sv S many U ep fc T n M F := ⟨h.1, h.2.1, h.2.2.1, zHi_up h.2.2.2.1 q, h.2.2.2.2⟩
theorem zCR_up {t t' d d' : Int} {M F : zMem} (h : zCR t d M F) (q : t ≤ t') (q' : d ≤ d') : zCR t' d' M F := by
  obtain ⟨V, sv, S, many, U, ep, fc, T, n, a, b, c, e⟩ := h
  exact ⟨V, sv, S, many, U, ep, fc, T, n, zCK_up a q, b, zCB_up c q q', e⟩
/-- a question changes nothing that is held -/
theorem zCR_in {t d : Int} {M F M' F' : zMem} (h : zCR t d M F) (hc : ∀ i, 0 ≤ i → i < 398 → i ≠ 5 → ¬(32 ≤ i ∧ i < 63) → M' i = M i ∧ F' i = F i) (h32 : zRp 32 F') (hm : ∀ i, 399 ≤ i → i < 408 → i ≠ 400 → i ≠ 401 → i ≠ 404 → M' i = M i) (h8 : ∀ j, j ≠ 8 → M' 398 j = M 398 j) : zCR t d M' F' := by
  obtain ⟨V, sv, S, many, U, ep, fc, T, n, a, b, c, e⟩ := h
  exact ⟨V, sv, S, many, U, ep, fc, T, n, zCK_in a c.1.2.1 (fun q => (c.2.1.2 q).1) (fun i i0 i1 i2 i3 => hc i i0 (by omega) i2 i3) h32, zCM_in b (fun i i0 i1 i2 i3 i4 _ _ => hm i i0 i1 i2 i3 i4) (fun j j0 _ _ _ _ => h8 j j0), c, zCO_in e (hc 396 (by omega) (by omega) (by omega) (by omega)).1 (hc 397 (by omega) (by omega) (by omega) (by omega)).1 (h8 10 (by omega)) (hm 405 (by omega) (by omega) (by omega) (by omega) (by omega))⟩
theorem zCR_rp {t d : Int} {M F : zMem} (h : zCR t d M F) : zRp 32 F := by
  obtain ⟨V, sv, S, many, U, ep, fc, T, n, a, b, c, e⟩ := h
  exact a.2.1.1
theorem zpush_6 {M : zMem} : zpush M 398 6 = zm8 (M 398 6) ∨ ¬ (0 ≤ M 398 6 ∧ M 398 6 ≤ 8) := by
  unfold zpush zm8
  by_cases h : M 398 6 = 8
  · rw [if_pos h, zu_same, h]
    exact Or.inl rfl
  · rw [if_neg h, zu_same]
    by_cases h2 : M 398 6 + 1 ≤ 8
    · rw [if_pos h2]; exact Or.inl rfl
    · exact Or.inr (by omega)
theorem zcpy_at {M : zMem} {i1 sp i2 dp n j : Int} : zcpy M i1 sp i2 dp n i2 j = if dp ≤ j ∧ j < dp + n then M i1 (sp + (j - dp)) else M i2 j := by
  unfold zcpy zrow
  rw [if_pos rfl]
theorem zpush_403 {M : zMem} (h0 : 0 ≤ M 398 6) (h1 : M 398 6 ≤ 8) {k j : Int} (k0 : 0 ≤ k) (k1 : k < zm8 (M 398 6)) (j0 : 0 ≤ j) (j1 : j < 1496) :
    zpush M 403 (1496 * (zm8 (M 398 6) - 1 - k) + j) = if k = 0 then M 400 j else M 403 (1496 * (M 398 6 - 1 - (k - 1)) + j) := by
  unfold zm8 at k1 ⊢
  unfold zpush
  by_cases h : M 398 6 = 8
  · rw [if_pos h, if_neg (by omega)]
    rw [h, if_neg (by omega)] at k1
    rw [h, zu_ne (by omega), zcpy_at]
    by_cases hk : k = 0
    · rw [if_pos (by omega), if_pos hk, zu_ne (by omega), zcpy_ne (by omega), show 0 + (1496 * (8 - 1 - k) + j - 1496 * (8 - 1)) = j by omega]
    · rw [if_neg (by omega), if_neg hk, zu_ne (by omega), zcpy_at, if_pos (by omega), show 1496 + (1496 * (8 - 1 - k) + j - 0) = 1496 * (8 - 1 - (k - 1)) + j by omega]
  · rw [if_neg h, if_pos (by omega)]
    rw [if_pos (by omega)] at k1
    rw [zu_ne (by omega), zcpy_at]
    by_cases hk : k = 0
    · rw [if_pos (by omega), if_pos hk, show 0 + (1496 * (M 398 6 + 1 - 1 - k) + j - 1496 * M 398 6) = j by omega]
    · rw [if_neg (by omega), if_neg hk, show 1496 * (M 398 6 + 1 - 1 - k) + j = 1496 * (M 398 6 - 1 - (k - 1)) + j by omega]
/-- a change that is kept: the model's side -/
theorem zCM_push {V S T W : Int → Int} {U : Int → Int → Int} {sv many ep fc n : Int} {M M1 : zMem} (h : zCM V sv S many U ep fc T n M) (hb : 0 ≤ many ∧ many ≤ 8) (hw : M1 399 = W) (hk : M1 400 = V) (hm : ∀ i, i = 402 ∨ i = 403 ∨ i = 406 → M1 i = M i) (h8 : ∀ j, j ≠ 8 → M1 398 j = M 398 j) : zCM W sv S (zm8 many) (fun k => if k = 0 then V else U (k - 1)) ep fc T n (zpush M1) := by
  obtain ⟨a1, ⟨a2, a3⟩, ⟨a4, a5⟩, ⟨⟨a6, g6⟩, a7, g7⟩, a8, a9⟩ := h
  have e6 : M1 398 6 = many := (h8 6 (by omega)).trans a4
  have hz : zm8 many ≤ many + 1 := by unfold zm8; split <;> omega
  refine ⟨?_, ⟨?_, fun q => ?_⟩, ⟨?_, fun k j k0 k1 j0 j1 => ?_⟩, ⟨⟨?_, g6⟩, ?_, g7⟩, ?_, ?_⟩
  · rw [← hw]; exact funext fun j => zpush_row (by omega) (by omega) j
  · rw [zpush_398 (by omega), h8 4 (by omega)]; exact a2
  · rw [← a3 q, ← hm 402 (by omega)]; exact funext fun j => zpush_row (by omega) (by omega) j
  · rcases zpush_6 (M := M1) with q | q
    · rw [q, e6]
    · exact absurd (by rw [e6]; exact hb) q
  · have := zpush_403 (M := M1) (by rw [e6]; exact hb.1) (by rw [e6]; exact hb.2) k0 (by rw [e6]; exact k1) j0 j1
    rw [e6] at this
    rw [this, hk]
    show _ = (if k = 0 then V else U (k - 1)) j
    by_cases hk0 : k = 0
    · rw [if_pos hk0, if_pos hk0]
    · rw [if_neg hk0, if_neg hk0, hm 403 (by omega)]
      exact a5 (k - 1) j (by omega) (by omega) j0 j1
  · rw [zpush_398 (by omega), h8 15 (by omega)]; exact a6
  · rw [zpush_398 (by omega), h8 16 (by omega)]; exact a7
  · rw [← a8, ← hm 406 (by omega)]; exact funext fun j => zpush_row (by omega) (by omega) j
  · rw [zpush_398 (by omega), h8 12 (by omega)]; exact a9
theorem zCB_push {V S T W : Int → Int} {U : Int → Int → Int} {t d t' d' sv many : Int} (h : zCB t d V sv S many U T) (q : t ≤ t') (q' : d ≤ d') (hG : zGd t' W) (hd : W 3 ≤ d') (hV : ∀ j, zR (V j)) (hb : 0 ≤ many) : zCB t' d' W sv S (zm8 many) (fun k => if k = 0 then V else U (k - 1)) T := by
  obtain ⟨⟨a1, a2, a3⟩, ⟨a4, a5⟩, a6, a7⟩ := h
  refine ⟨⟨by omega, hG, hd⟩, ⟨a4, fun z => ⟨zGd_up (a5 z).1 q, by have := (a5 z).2; omega⟩⟩, fun k k0 k1 => ?_, a7⟩
  have hz : zm8 many ≤ many + 1 := by unfold zm8; split <;> omega
  show (if k = 0 then V else U (k - 1)) 3 ≤ d' ∧ ∀ j, zR ((if k = 0 then V else U (k - 1)) j)
  by_cases hk0 : k = 0
  · rw [if_pos hk0]; exact ⟨by omega, hV⟩
  · rw [if_neg hk0]
    have := a6 (k - 1) (by omega) (by omega)
    exact ⟨by omega, this.2⟩
/-- a change that is kept: the class's side -/
theorem zCK_push {V S T W : Int → Int} {U : Int → Int → Int} {t t' sv many ep fc n : Int} {M F M' F' : zMem} (h : zCK t V sv S many U ep fc T n M F) (q : t ≤ t') (hS : sv = 1 → zGd t S) (hR : zRS 1 W M' F') (hH : zHi t (zm8 many) (fun k => if k = 0 then V else U (k - 1)) M' F') (hF : zFr M F M' F') : zCK t' W sv S (zm8 many) (fun k => if k = 0 then V else U (k - 1)) ep fc T n M' F' := by
  obtain ⟨a1, ⟨a2, a3⟩, ⟨a4, a5⟩, a6, a7, b1, b2, b3⟩ := h
  have e0 := (hF 0 (by omega) (by omega)).1
  refine ⟨hR, ⟨zRp_in a2 (hF (32 + 6) (by omega) (by omega)).2, zRp_in a3 (hF (63 + 6) (by omega) (by omega)).2⟩, ⟨by rw [e0]; exact a4, fun z => zRS_in (a5 z) (hS z).b1 (hS z).b2 (fun i i0 i1 => hF i (by omega) (by omega))⟩, zHi_up hH q, ⟨by rw [e0]; exact a7.1, by rw [e0]; exact a7.2⟩, by rw [(hF 376 (by omega) (by omega)).1]; exact b1, by rw [(hF 375 (by omega) (by omega)).1]; exact b2, b3⟩
/-- a change that is refused: the class's side -/
theorem zCK_ref {V S T : Int → Int} {U : Int → Int → Int} {t sv many ep fc n : Int} {M F M' F' : zMem} (h : zCK t V sv S many U ep fc T n M F) (hS : sv = 1 → zGd t S) (hR : zRS 1 V M' F') (hH : zHi t many U M' F') (hF : zFr M F M' F') : zCK t V sv S many U ep fc T n M' F' := by
  obtain ⟨a1, ⟨a2, a3⟩, ⟨a4, a5⟩, a6, a7, b1, b2, b3⟩ := h
  have e0 := (hF 0 (by omega) (by omega)).1
  refine ⟨hR, ⟨zRp_in a2 (hF (32 + 6) (by omega) (by omega)).2, zRp_in a3 (hF (63 + 6) (by omega) (by omega)).2⟩, ⟨by rw [e0]; exact a4, fun z => zRS_in (a5 z) (hS z).b1 (hS z).b2 (fun i i0 i1 => hF i (by omega) (by omega))⟩, hH, ⟨by rw [e0]; exact a7.1, by rw [e0]; exact a7.2⟩, by rw [(hF 376 (by omega) (by omega)).1]; exact b1, by rw [(hF 375 (by omega) (by omega)).1]; exact b2, b3⟩
