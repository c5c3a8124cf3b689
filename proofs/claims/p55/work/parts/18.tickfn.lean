theorem zfold_ind {σ : Type} {f : Int → σ → σ} (P : Nat → σ → Prop) {n : Nat} {s : σ} (h0 : P 0 s) (hs : ∀ k a, k < n → P k a → P (k + 1) (f k a)) : P n (zfold f n s) := by
  have h : ∀ m, m ≤ n → P m (zfold f m s) := by
    intro m
    induction m with
    | zero => intro _; exact h0
    | succ m ih => intro hm; exact hs m _ (by omega) (ih (by omega))
  exact h n (Nat.le_refl n)
abbrev zhm (V : Int → Int) (p : Int) : Int := V (72 + 4 * V (96 + 47 * p + 1) + 0)
/-- the waiting message that begins in a chamber, or -1; is one drummed there -/
def zBf (c : Int) (V : Int → Int) : Int := zfst (fun q => zhm V q = c ∧ V (96 + 47 * q + 4) = 119) (V 2).toNat
def zBd (c : Int) (V : Int → Int) : Bool := zany (fun q => zhm V q = c ∧ V (96 + 47 * q + 4) = 100) (V 2).toNat
def zBeg1 (c : Int) (V : Int → Int) : Int → Int := if zBd c V = true ∨ zBf c V < 0 then V else zup (zup V (96 + 47 * zBf c V + 4) 100) (96 + 47 * zBf c V + 6) 0
def zBegs (V : Int → Int) : Int → Int := zfold (fun c W => zBeg1 c W) (V 0).toNat V
def zHear (p b : Int) (n : Int → Int) (c : Int) (W : Int → Int) : Int → Int :=
  zup (zup W (96 + 47 * p + (7 + 8 * b + c)) (if n c < 1000 then W 4 + n c + 1 else 0)) (472 + 128 * c + (W 4 + n c) % 128) (W (472 + 128 * c + (W 4 + n c) % 128) + (if n c < 1000 then 1 else 0))
def zDr1 (p : Int) (V : Int → Int) : Int → Int := zup V (96 + 47 * p + 6) (V (96 + 47 * p + 6) + 1)
def zDr2 (p : Int) (V : Int → Int) : Int → Int := zup (zDr1 p V) 5 (V 5 + 1)
def zDr (p : Int) (V : Int → Int) : Int → Int :=
  if zbt (V (96 + 47 * p + 3)) (V (96 + 47 * p + 6)) = 0 then zDr1 p V
  else zfold (fun c W => zHear p (V (96 + 47 * p + 6)) (zBF (zDr2 p V) (zhm (zDr2 p V) p)) c W) (V 0).toNat (zDr2 p V)
/-- the receiver's chamber; a beat is heard there alone -/
abbrev zrc (V : Int → Int) (p : Int) : Int := V (72 + 4 * V (96 + 47 * p + 2) + 0)
def zOk (V : Int → Int) (p b : Int) : Prop := zbt (V (96 + 47 * p + 3)) b = 1 → 0 ≤ V (96 + 47 * p + (7 + 8 * b + zrc V p)) - 1 ∧ V (472 + 128 * zrc V p + (V (96 + 47 * p + (7 + 8 * b + zrc V p)) - 1) % 128) = 1
def zOk_dec (V : Int → Int) (p : Int) : DecidablePred (zOk V p) := fun b => by unfold zOk; exact inferInstance
def zOkB (V : Int → Int) (p : Int) (n : Nat) : Bool := @zall (zOk V p) (zOk_dec V p) n
def zAr (p : Int) (V : Int → Int) : Bool := decide (V (72 + 4 * V (96 + 47 * p + 2) + 1) = 1) && decide (zBF V (zhm V p) (zrc V p) < 1000) && zOkB V p 5
def zDe (p : Int) (V : Int → Int) : Int → Int :=
  if zAr p V = true then zup (zup (zup (zup (zup V (96 + 47 * p + 6) 0) (96 + 47 * p + 4) 114) (72 + 4 * V (96 + 47 * p + 2) + 2) (V (72 + 4 * V (96 + 47 * p + 2) + 2) + 1)) (72 + 4 * V (96 + 47 * p + 2) + 3) (V (96 + 47 * p + 3) + 1)) 6 (V 6 + 1)
  else zup (zup (zup (zup V (96 + 47 * p + 6) 0) (96 + 47 * p + 5) (V (96 + 47 * p + 5) + 1)) (96 + 47 * p + 4) (if V (96 + 47 * p + 5) + 1 = 3 then 108 else 119)) 7 (V 7 + 1)
def zTkB (A : Int → Int) : Int → Int := zfold (fun p W => if W (96 + 47 * p + 4) = 100 then zDr p W else W) (A 2).toNat A
def zTkC (B : Int → Int) : Int → Int := zfold (fun p W => if W (96 + 47 * p + 4) = 100 ∧ W (96 + 47 * p + 6) = 5 then zDe p W else W) (B 2).toNat B
def zTkD (C : Int → Int) : Int → Int := zfold (fun c W => zup W (472 + 128 * c + (W 4 - 20 - 1) % 128) 0) 8 (zup C 4 (C 4 + 1))
def zTick (V : Int → Int) : Int → Int := zTkD (zTkC (zTkB (zBegs V)))
/-- between ticks a drummed message has beats left -/
def zTD (V : Int → Int) : Prop := ∀ p, 0 ≤ p → p < V 2 → V (96 + 47 * p + 4) = 100 → V (96 + 47 * p + 6) ≤ 4
theorem zBf_in (c : Int) {V : Int → Int} (h : ¬ zBf c V < 0) (h2 : 0 ≤ V 2) : 0 ≤ zBf c V ∧ zBf c V < V 2 ∧ zhm V (zBf c V) = c ∧ V (96 + 47 * zBf c V + 4) = 119 := by
  have h1 := zfst_F1 (P := fun q => zhm V q = c ∧ V (96 + 47 * q + 4) = 119) (V 2).toNat
  rcases h1 with ⟨e, -⟩ | ⟨g0, g1, g2, -⟩
  · exact absurd (by show zBf c V < 0; rw [zBf, e]; decide) h
  · exact ⟨g0, by rw [Int.toNat_of_nonneg h2] at g1; exact g1, g2.1, g2.2⟩
theorem zBeg1_lo (c : Int) (V : Int → Int) (h2 : 0 ≤ V 2) {j : Int} (hj : j < 96) : zBeg1 c V j = V j := by
  unfold zBeg1
  split
  · rfl
  · rename_i h
    have h0 := zBf_in c (fun q => h (Or.inr q)) h2
    rw [zup_ne (by omega), zup_ne (by omega)]
theorem zIV_beg1 {t c : Int} {V : Int → Int} (h : zIV t V) : zIV t (zBeg1 c V) := by
  unfold zBeg1
  split
  · exact h
  · rename_i hc
    have h0 := zBf_in c (fun q => hc (Or.inr q)) h.2.2.1.1
    have hM := h.2.2.2.2.2.2.1 _ h0.1 h0.2.1
    have h8 := h.2.2.1.2
    exact zIV_don (zIV_sta h (by omega) ⟨fun _ => hM.2.2.2.2.2.2.1 (Or.inl h0.2.2.2), by omega⟩) (by omega) (by omega)
theorem zTD_beg1 {c : Int} {V : Int → Int} (h : zTD V) (h2 : 0 ≤ V 2) : zTD (zBeg1 c V) := by
  intro p h0 h1
  rw [zBeg1_lo c V h2 (by omega)] at h1
  unfold zBeg1
  split
  · exact h p h0 h1
  · rename_i hc
    have hf := zBf_in c (fun q => hc (Or.inr q)) h2
    by_cases hp : p = zBf c V
    · rw [hp, zup_same]
      intro _
      decide
    · rw [zup_ne (by omega), zup_ne (by omega), zup_ne (by omega), zup_ne (by omega)]
      exact h p h0 h1
theorem zBegs_keep {t : Int} {V : Int → Int} (h : zIV t V) (hd : zTD V) : zIV t (zBegs V) ∧ zTD (zBegs V) ∧ ∀ j, j < 96 → zBegs V j = V j := by
  refine zfold_ind (fun _ W => zIV t W ∧ zTD W ∧ ∀ j, j < 96 → W j = V j) ⟨h, hd, fun _ _ => rfl⟩ (fun k W _ ⟨a, b, c⟩ => ⟨zIV_beg1 a, zTD_beg1 b a.2.2.1.1, fun j hj => by rw [zBeg1_lo _ _ a.2.2.1.1 hj, c j hj]⟩)
/-- what a drummed beat leaves as it was -/
def zKp (p j : Int) : Prop := (j < 96 ∧ j ≠ 5) ∨ ∃ q k, j = 96 + 47 * q + k ∧ 0 ≤ q ∧ q < 8 ∧ 0 ≤ k ∧ k < 47 ∧ (q ≠ p ∨ k < 6)
theorem zHear_kp {p b c : Int} {n : Int → Int} {W : Int → Int} {j : Int} (hj : zKp p j) (hp : 0 ≤ p ∧ p < 8) (hb : 0 ≤ b ∧ b < 5) (hc : 0 ≤ c ∧ c < 8) : zHear p b n c W j = W j := by
  unfold zHear
  have hm := Int.emod_nonneg (W 4 + n c) (show (128 : Int) ≠ 0 by decide)
  rcases hj with ⟨h1, h2⟩ | ⟨q, k, rfl, h1, h2, h3, h4, h5⟩
  · rw [zup_ne (by omega), zup_ne (by omega)]
  · have h6 : 96 + 47 * q + k ≠ 96 + 47 * p + (7 + 8 * b + c) := by
      rcases Int.lt_trichotomy q p with z | z | z <;> omega
    rw [zup_ne (by omega), zup_ne h6]
theorem zDr2_kp {p : Int} {V : Int → Int} {j : Int} (hj : zKp p j) (hp : 0 ≤ p) : zDr1 p V j = V j ∧ zDr2 p V j = V j := by
  unfold zDr2 zDr1
  rcases hj with ⟨h1, h2⟩ | ⟨q, k, rfl, h1, h2, h3, h4, h5⟩
  · exact ⟨zup_ne (by omega), by rw [zup_ne (by omega), zup_ne (by omega)]⟩
  · exact ⟨zup_ne (by omega), by rw [zup_ne (by omega), zup_ne (by omega)]⟩
theorem zrx_bd {V : Int → Int} {a b : Int} {q : Int → Int} (hT : ∀ i, 8 ≤ i → i < 72 → 0 ≤ V i ∧ V i ≤ 9) (ha : 0 ≤ a ∧ a < 8) (hb : 0 ≤ b ∧ b < 8) (h : ∀ j, 0 ≤ j → j < 8 → 0 ≤ q j ∧ q j ≤ 1000) : ∀ j, 0 ≤ j → j < 8 → 0 ≤ zrx V a b q j ∧ zrx V a b q j ≤ 1000 := by
  intro j h0 h1
  have e1 := h j h0 h1
  have e2 := h a ha.1 ha.2
  have e3 := h b hb.1 hb.2
  have e4 := hT (8 + 8 * a + b) (by omega) (by omega)
  unfold zrx
  split <;> omega
theorem zBF_bd {V : Int → Int} {a : Int} (hT : ∀ i, 8 ≤ i → i < 72 → 0 ≤ V i ∧ V i ≤ 9) : ∀ j, 0 ≤ j → j < 8 → 0 ≤ zBF V a j ∧ zBF V a j ≤ 1000 := by
  unfold zBF
  refine zfold_ind (fun _ (q : Int → Int) => ∀ j, 0 ≤ j → j < 8 → 0 ≤ q j ∧ q j ≤ 1000) (fun j _ _ => zNr_bd a j) (fun _ q _ hq => ?_)
  unfold zrxA
  refine zfold_ind (fun _ (q : Int → Int) => ∀ j, 0 ≤ j → j < 8 → 0 ≤ q j ∧ q j ≤ 1000) hq (fun k q hk hq => ?_)
  unfold zrxB
  exact zfold_ind (fun _ (q : Int → Int) => ∀ j, 0 ≤ j → j < 8 → 0 ≤ q j ∧ q j ≤ 1000) hq (fun k2 q hk2 hq => zrx_bd hT ⟨by omega, by omega⟩ ⟨by omega, by omega⟩ hq)
theorem zIV_hear {t p b c : Int} {n : Int → Int} {W : Int → Int} (h : zIV t W) (hp : 0 ≤ p ∧ p < 8) (hb : 0 ≤ b ∧ b < 5) (hc : 0 ≤ c ∧ c < 8) (hn : 0 ≤ n c) (hr : ∀ i, 472 ≤ i → i < 1496 → W i + 1 ≤ t) : zIV t (zHear p b n c W) := by
  have h4 := h.2.2.2.1 4 (by decide) (by decide)
  have hm := Int.emod_nonneg (W 4 + n c) (show (128 : Int) ≠ 0 by decide)
  have hm2 := Int.emod_lt_of_pos (W 4 + n c) (show (0 : Int) < 128 by decide)
  have hi := hr (472 + 128 * c + (W 4 + n c) % 128) (by omega) (by omega)
  have hi0 := h.2.2.2.2.2.2.2 (472 + 128 * c + (W 4 + n c) % 128) (by omega) (by omega)
  unfold zHear
  refine zIV_rin (zIV_hea h hp ⟨by omega, by omega⟩ ?_) ⟨by omega, by omega⟩ ?_
  · split <;> omega
  · split <;> omega
theorem zIV_dr2 {t p : Int} {V : Int → Int} (h : zIV t V) (hp : 0 ≤ p ∧ p < V 2) (hd : V (96 + 47 * p + 6) ≤ 4) : zIV t (zDr1 p V) ∧ zIV (t + 1) (zDr2 p V) := by
  have h8 := h.2.2.1.2
  have hM := h.2.2.2.2.2.2.1 p hp.1 hp.2
  have h5 := h.2.2.2.1 5 (by decide) (by decide)
  have h1 : zIV t (zDr1 p V) := zIV_don h ⟨hp.1, by omega⟩ (by omega)
  exact ⟨h1, zIV_cnt (zIV_mono h1 (by omega)) (by omega) (by omega)⟩
theorem zDr2_T {p : Int} {V : Int → Int} (hp : 0 ≤ p) {i : Int} (h0 : 8 ≤ i) (h1 : i < 72) : zDr2 p V i = V i := (zDr2_kp (Or.inl ⟨by omega, by omega⟩) hp).2
/-- after k chambers have heard the beat -/
theorem zDrF_keep {t p : Int} {V : Int → Int} (h : zIV t V) (hp : 0 ≤ p ∧ p < V 2) (hd : V (96 + 47 * p + 6) ≤ 4) (k : Nat) (hk : (k : Int) ≤ V 0) :
    zIV (t + 1) (zfold (fun c W => zHear p (V (96 + 47 * p + 6)) (zBF (zDr2 p V) (zhm (zDr2 p V) p)) c W) k (zDr2 p V)) ∧ (∀ j, zKp p j → zfold (fun c W => zHear p (V (96 + 47 * p + 6)) (zBF (zDr2 p V) (zhm (zDr2 p V) p)) c W) k (zDr2 p V) j = zDr2 p V j) := by
  have h8 := h.2.2.1.2
  have h08 := h.1.2
  have hM := h.2.2.2.2.2.2.1 p hp.1 hp.2
  have hT : ∀ i, 8 ≤ i → i < 72 → 0 ≤ zDr2 p V i ∧ zDr2 p V i ≤ 9 := fun i h0 h1 => by rw [zDr2_T hp.1 h0 h1]; exact h.2.2.2.2.1 i h0 h1
  have key : zIV (t + 1) (zfold (fun c W => zHear p (V (96 + 47 * p + 6)) (zBF (zDr2 p V) (zhm (zDr2 p V) p)) c W) k (zDr2 p V)) ∧ (∀ j, zKp p j → zfold (fun c W => zHear p (V (96 + 47 * p + 6)) (zBF (zDr2 p V) (zhm (zDr2 p V) p)) c W) k (zDr2 p V) j = zDr2 p V j) ∧ ∀ c i, (k : Int) ≤ c → c < 8 → 472 + 128 * c ≤ i → i < 472 + 128 * c + 128 → zfold (fun c W => zHear p (V (96 + 47 * p + 6)) (zBF (zDr2 p V) (zhm (zDr2 p V) p)) c W) k (zDr2 p V) i = V i := by
    refine zfold_ind (fun k W => zIV (t + 1) W ∧ (∀ j, zKp p j → W j = zDr2 p V j) ∧ ∀ c i, (k : Int) ≤ c → c < 8 → 472 + 128 * c ≤ i → i < 472 + 128 * c + 128 → W i = V i) ⟨(zIV_dr2 h hp hd).2, fun _ _ => rfl, fun c i h1 h2 h3 h4 => ?_⟩ (fun q W hq ⟨a, b, d⟩ => ⟨?_, fun j hj => ?_, fun c i h1 h2 h3 h4 => ?_⟩)
    · unfold zDr2 zDr1
      rw [zup_ne (by omega), zup_ne (by omega)]
    · have hn := (zBF_bd (V := zDr2 p V) (a := zhm (zDr2 p V) p) hT q (by omega) (by omega)).1
      have h4 := a.2.2.2.1 4 (by decide) (by decide)
      have hm := Int.emod_nonneg (W 4 + zBF (zDr2 p V) (zhm (zDr2 p V) p) q) (show (128 : Int) ≠ 0 by decide)
      have hm2 := Int.emod_lt_of_pos (W 4 + zBF (zDr2 p V) (zhm (zDr2 p V) p) q) (show (0 : Int) < 128 by decide)
      have hi := d q (472 + 128 * q + (W 4 + zBF (zDr2 p V) (zhm (zDr2 p V) p) q) % 128) (by omega) (by omega) (by omega) (by omega)
      have hv := h.2.2.2.2.2.2.2 (472 + 128 * q + (W 4 + zBF (zDr2 p V) (zhm (zDr2 p V) p) q) % 128) (by omega) (by omega)
      unfold zHear
      refine zIV_rin (zIV_hea a ⟨hp.1, by omega⟩ ⟨by omega, by omega⟩ ?_) ⟨by omega, by omega⟩ ?_
      · split <;> omega
      · split <;> omega
    · rw [zHear_kp hj ⟨hp.1, by omega⟩ ⟨by omega, by omega⟩ ⟨by omega, by omega⟩]
      exact b j hj
    · have hm := Int.emod_nonneg (W 4 + zBF (zDr2 p V) (zhm (zDr2 p V) p) q) (show (128 : Int) ≠ 0 by decide)
      have hm2 := Int.emod_lt_of_pos (W 4 + zBF (zDr2 p V) (zhm (zDr2 p V) p) q) (show (0 : Int) < 128 by decide)
      unfold zHear
      rw [zup_ne (by omega), zup_ne (by omega)]
      exact d c i (by omega) h2 h3 h4
  exact ⟨key.1, key.2.1⟩
theorem zDr_keep {t p : Int} {V : Int → Int} (h : zIV t V) (hp : 0 ≤ p ∧ p < V 2) (hd : V (96 + 47 * p + 6) ≤ 4) : zIV (t + 1) (zDr p V) ∧ ∀ j, zKp p j → zDr p V j = V j := by
  unfold zDr
  split
  · exact ⟨zIV_mono (zIV_dr2 h hp hd).1 (by omega), fun j hj => (zDr2_kp hj hp.1).1⟩
  · have h0 := h.1.1
    obtain ⟨a, b⟩ := zDrF_keep h hp hd (V 0).toNat (by omega)
    exact ⟨a, fun j hj => by rw [b j hj]; exact (zDr2_kp hj hp.1).2⟩
theorem zDe_keep {t p : Int} {V : Int → Int} (h : zIV t V) (hp : 0 ≤ p ∧ p < V 2) (hd : V (96 + 47 * p + 4) = 100) : zIV (t + 1) (zDe p V) ∧ (∀ j, j < 72 → j ≠ 6 → j ≠ 7 → zDe p V j = V j) ∧ (∀ q, 0 ≤ q → q < V 2 → q ≠ p → zDe p V (96 + 47 * q + 4) = V (96 + 47 * q + 4) ∧ zDe p V (96 + 47 * q + 6) = V (96 + 47 * q + 6)) ∧ zDe p V (96 + 47 * p + 4) ≠ 100 := by
  have h8 := h.2.2.1.2
  have h6 := h.2.2.2.1 6 (by decide) (by decide)
  have h7 := h.2.2.2.1 7 (by decide) (by decide)
  obtain ⟨m0, m1, m2, m3, m4, m5, m6, m7, m8⟩ := h.2.2.2.2.2.2.1 p hp.1 hp.2
  have hr6 := h.2.1.2
  obtain ⟨b1, b2, b3, b4⟩ := h.2.2.2.2.2.1 _ m2.1 m2.2
  have m6' := m6 (Or.inr hd)
  unfold zDe
  split
  · refine ⟨?_, fun j hj hj6 hj7 => ?_, fun q h0 h1 hq => ⟨?_, ?_⟩, ?_⟩
    · refine zIV_cnt (zIV_lat (zIV_rec (zIV_sta (zIV_don (zIV_mono h (show t ≤ t + 1 by omega)) ⟨hp.1, by omega⟩ ⟨by omega, by omega⟩) ⟨hp.1, by omega⟩ ⟨fun z => by omega, by omega⟩) ⟨m2.1, by omega⟩ ⟨by omega, by omega⟩) ⟨m2.1, by omega⟩ ⟨by omega, by omega⟩) ⟨by omega, by omega⟩ ⟨by omega, by omega⟩
    · rw [zup_ne (by omega), zup_ne (by omega), zup_ne (by omega), zup_ne (by omega), zup_ne (by omega)]
    · rw [zup_ne (by omega), zup_ne (by omega), zup_ne (by omega), zup_ne (by omega), zup_ne (by omega)]
    · rw [zup_ne (by omega), zup_ne (by omega), zup_ne (by omega), zup_ne (by omega), zup_ne (by omega)]
    · rw [zup_ne (by omega), zup_ne (by omega), zup_ne (by omega), zup_same]
      decide
  · refine ⟨?_, fun j hj hj6 hj7 => ?_, fun q h0 h1 hq => ⟨?_, ?_⟩, ?_⟩
    · have hI := zIV_don (zIV_mono h (show t ≤ t + 1 by omega)) (p := p) (v := 0) ⟨hp.1, by omega⟩ ⟨by omega, by omega⟩
      have e4 : zup V (96 + 47 * p + 6) 0 (96 + 47 * p + 4) = 100 := by rw [zup_ne (by omega)]; exact hd
      have e5 : zup V (96 + 47 * p + 6) 0 (96 + 47 * p + 5) = V (96 + 47 * p + 5) := zup_ne (by omega)
      refine zIV_cnt ?_ ⟨by omega, by omega⟩ ⟨by omega, by omega⟩
      by_cases h3 : V (96 + 47 * p + 5) + 1 = 3
      · rw [if_pos h3]
        have hs := zIV_sta hI (p := p) (v := 108) ⟨hp.1, by omega⟩ ⟨fun z => by omega, by omega⟩
        have ht := zIV_tim hs (p := p) (v := V (96 + 47 * p + 5) + 1) ⟨hp.1, by omega⟩ ⟨by omega, by rw [zup_same]; omega⟩
        have e : zup (zup (zup V (96 + 47 * p + 6) 0) (96 + 47 * p + 4) 108) (96 + 47 * p + 5) (V (96 + 47 * p + 5) + 1) = zup (zup (zup V (96 + 47 * p + 6) 0) (96 + 47 * p + 5) (V (96 + 47 * p + 5) + 1)) (96 + 47 * p + 4) 108 := by
          funext j
          unfold zup
          split <;> split <;> first | rfl | omega
        rw [← e]
        exact ht
      · rw [if_neg h3]
        have ht := zIV_tim hI (p := p) (v := V (96 + 47 * p + 5) + 1) ⟨hp.1, by omega⟩ ⟨by omega, by omega⟩
        exact zIV_sta ht ⟨hp.1, by omega⟩ ⟨by rw [zup_same]; omega, by omega⟩
    · rw [zup_ne (by omega), zup_ne (by omega), zup_ne (by omega), zup_ne (by omega)]
    · rw [zup_ne (by omega), zup_ne (by omega), zup_ne (by omega), zup_ne (by omega)]
    · rw [zup_ne (by omega), zup_ne (by omega), zup_ne (by omega), zup_ne (by omega)]
    · rw [zup_ne (by omega), zup_same]
      split <;> decide
/-- after k messages have drummed -/
theorem zTkB_keep {t : Int} {A : Int → Int} (h : zIV t A) (hd : zTD A) (k : Nat) (hk : (k : Int) ≤ A 2) : zIV (t + k) (zfold (fun p W => if W (96 + 47 * p + 4) = 100 then zDr p W else W) k A) ∧ (∀ j, j < 96 → j ≠ 5 → zfold (fun p W => if W (96 + 47 * p + 4) = 100 then zDr p W else W) k A j = A j) ∧ ∀ q : Int, k ≤ q → q < A 2 → zfold (fun p W => if W (96 + 47 * p + 4) = 100 then zDr p W else W) k A (96 + 47 * q + 4) = 100 → zfold (fun p W => if W (96 + 47 * p + 4) = 100 then zDr p W else W) k A (96 + 47 * q + 6) ≤ 4 := by
  have h8 := h.2.2.1.2
  refine zfold_ind (fun k W => zIV (t + k) W ∧ (∀ j, j < 96 → j ≠ 5 → W j = A j) ∧ ∀ q : Int, k ≤ q → q < A 2 → W (96 + 47 * q + 4) = 100 → W (96 + 47 * q + 6) ≤ 4) ⟨by simpa using h, fun _ _ _ => rfl, fun q h0 h1 h2 => hd q (by omega) h1 h2⟩ (fun q W hq ⟨a, b, d⟩ => ?_)
  have e2 := b 2 (by decide) (by decide)
  show zIV (t + ((q + 1 : Nat) : Int)) _ ∧ _
  rw [show t + ((q + 1 : Nat) : Int) = (t + (q : Int)) + 1 by omega]
  split
  · rename_i hs
    obtain ⟨g1, g2⟩ := zDr_keep a (p := (q : Int)) ⟨by omega, by omega⟩ (d q (by omega) (by omega) hs)
    refine ⟨g1, fun j h0 h1 => by rw [g2 j (Or.inl ⟨h0, h1⟩), b j h0 h1], fun q' h0 h1 => ?_⟩
    rw [g2 _ (Or.inr ⟨q', 4, rfl, by omega, by omega, by omega, by omega, Or.inl (by omega)⟩), g2 _ (Or.inr ⟨q', 6, rfl, by omega, by omega, by omega, by omega, Or.inl (by omega)⟩)]
    exact d q' (by omega) h1
  · exact ⟨zIV_mono a (by omega), b, fun q' h0 h1 => d q' (by omega) h1⟩
theorem zTkC_keep {t : Int} {B : Int → Int} (h : zIV t B) (k : Nat) (hk : (k : Int) ≤ B 2) : zIV (t + k) (zfold (fun p W => if W (96 + 47 * p + 4) = 100 ∧ W (96 + 47 * p + 6) = 5 then zDe p W else W) k B) ∧ (∀ j, j < 72 → j ≠ 6 → j ≠ 7 → zfold (fun p W => if W (96 + 47 * p + 4) = 100 ∧ W (96 + 47 * p + 6) = 5 then zDe p W else W) k B j = B j) ∧ ∀ q : Int, 0 ≤ q → q < k → zfold (fun p W => if W (96 + 47 * p + 4) = 100 ∧ W (96 + 47 * p + 6) = 5 then zDe p W else W) k B (96 + 47 * q + 4) = 100 → zfold (fun p W => if W (96 + 47 * p + 4) = 100 ∧ W (96 + 47 * p + 6) = 5 then zDe p W else W) k B (96 + 47 * q + 6) ≤ 4 := by
  have h8 := h.2.2.1.2
  refine zfold_ind (fun k W => zIV (t + k) W ∧ (∀ j, j < 72 → j ≠ 6 → j ≠ 7 → W j = B j) ∧ ∀ q : Int, 0 ≤ q → q < k → W (96 + 47 * q + 4) = 100 → W (96 + 47 * q + 6) ≤ 4) ⟨by simpa using h, fun _ _ _ _ => rfl, fun q h0 h1 => by omega⟩ (fun q W hq ⟨a, b, d⟩ => ?_)
  have e2 := b 2 (by decide) (by decide) (by decide)
  show zIV (t + ((q + 1 : Nat) : Int)) _ ∧ _
  rw [show t + ((q + 1 : Nat) : Int) = (t + (q : Int)) + 1 by omega]
  split
  · rename_i hs
    obtain ⟨g1, g2, g3, g4⟩ := zDe_keep a (p := (q : Int)) ⟨by omega, by omega⟩ hs.1
    refine ⟨g1, fun j h0 h6 h7 => by rw [g2 j h0 h6 h7, b j h0 h6 h7], fun q' h0 h1 => ?_⟩
    by_cases hq' : q' = q
    · rw [hq']
      exact fun z => absurd z g4
    · obtain ⟨f1, f2⟩ := g3 q' h0 (by omega) hq'
      rw [f1, f2]
      exact d q' h0 (by omega)
  · rename_i hs
    refine ⟨zIV_mono a (by omega), b, fun q' h0 h1 h2 => ?_⟩
    by_cases hq' : q' = q
    · have hM := (a.2.2.2.2.2.2.1 q (by omega) (by omega)).2.2.2.2.2.2.2.1
      rw [hq'] at h2 ⊢
      have : ¬ W (96 + 47 * (q : Int) + 6) = 5 := fun z => hs ⟨h2, z⟩
      omega
    · exact d q' h0 (by omega) h2
theorem zTkD_keep {t : Int} {D : Int → Int} (h : zIV t D) (k : Nat) (hk : k ≤ 8) : zIV t (zfold (fun c W => zup W (472 + 128 * c + (W 4 - 20 - 1) % 128) 0) k D) ∧ ∀ j, j < 472 → zfold (fun c W => zup W (472 + 128 * c + (W 4 - 20 - 1) % 128) 0) k D j = D j := by
  refine zfold_ind (fun _ W => zIV t W ∧ ∀ j, j < 472 → W j = D j) ⟨h, fun _ _ => rfl⟩ (fun q W hq ⟨a, b⟩ => ?_)
  have hm := Int.emod_nonneg (W 4 - 20 - 1) (show (128 : Int) ≠ 0 by decide)
  have hm2 := Int.emod_lt_of_pos (W 4 - 20 - 1) (show (0 : Int) < 128 by decide)
  have h4 := h.2.2.2.1 4 (by decide) (by decide)
  exact ⟨zIV_rin a ⟨by omega, by omega⟩ ⟨by omega, by omega⟩, fun j hj => by rw [zup_ne (by omega)]; exact b j hj⟩
theorem zTick_keep {t : Int} {V : Int → Int} (h : zIV t V) (hd : zTD V) : zIV (t + 17) (zTick V) ∧ zTD (zTick V) ∧ (∀ j, j < 4 → zTick V j = V j) ∧ zTick V 4 = V 4 + 1 ∧ ∀ j, 8 ≤ j → j < 72 → zTick V j = V j := by
  obtain ⟨a1, a2, a3⟩ := zBegs_keep h hd
  have e2 := a3 2 (by decide)
  have h2 := a1.2.2.1
  obtain ⟨b1, b2, b3⟩ := zTkB_keep a1 a2 (zBegs V 2).toNat (by omega)
  have hB : zTkB (zBegs V) = zfold (fun p W => if W (96 + 47 * p + 4) = 100 then zDr p W else W) (zBegs V 2).toNat (zBegs V) := rfl
  rw [← hB] at b1 b2 b3
  have f2 := b2 2 (by decide) (by decide)
  obtain ⟨c1, c2, c3⟩ := zTkC_keep b1 (zTkB (zBegs V) 2).toNat (by omega)
  have hC : zTkC (zTkB (zBegs V)) = zfold (fun p W => if W (96 + 47 * p + 4) = 100 ∧ W (96 + 47 * p + 6) = 5 then zDe p W else W) (zTkB (zBegs V) 2).toNat (zTkB (zBegs V)) := rfl
  rw [← hC] at c1 c2 c3
  have g2 := c2 2 (by decide) (by decide) (by decide)
  have h4 := c1.2.2.2.1 4 (by decide) (by decide)
  have d0 : zIV (t + 17) (zup (zTkC (zTkB (zBegs V))) 4 (zTkC (zTkB (zBegs V)) 4 + 1)) := zIV_cnt (zIV_mono c1 (by omega)) (by omega) (by omega)
  obtain ⟨d1, d2⟩ := zTkD_keep d0 8 (Nat.le_refl 8)
  have hD : zTick V = zfold (fun c W => zup W (472 + 128 * c + (W 4 - 20 - 1) % 128) 0) 8 (zup (zTkC (zTkB (zBegs V))) 4 (zTkC (zTkB (zBegs V)) 4 + 1)) := rfl
  rw [← hD] at d1 d2
  refine ⟨d1, ?_, fun j hj => ?_, ?_, fun j h0 h1 => ?_⟩
  · intro p h0 h1
    rw [d2 2 (by decide), zup_ne (by decide), g2, f2] at h1
    rw [d2 _ (by omega), d2 _ (by omega), zup_ne (by omega), zup_ne (by omega)]
    exact c3 p h0 (by omega)
  · rw [d2 j (by omega), zup_ne (by omega), c2 j (by omega) (by omega) (by omega), b2 j (by omega) (by omega), a3 j (by omega)]
  · rw [d2 4 (by decide), zup_same, c2 4 (by decide) (by decide) (by decide), b2 4 (by decide) (by decide), a3 4 (by decide)]
  · rw [d2 j (by omega), zup_ne (by omega), c2 j (by omega) (by omega) (by omega), b2 j (by omega) (by omega), a3 j (by omega)]
theorem zBegK_keep {t : Int} {V : Int → Int} (h : zIV t V) (k : Nat) : zIV t (zfold (fun c W => zBeg1 c W) k V) ∧ ∀ j, j < 96 → zfold (fun c W => zBeg1 c W) k V j = V j :=
  zfold_ind (fun _ W => zIV t W ∧ ∀ j, j < 96 → W j = V j) ⟨h, fun _ _ => rfl⟩ (fun k W _ ⟨a, c⟩ => ⟨zIV_beg1 a, fun j hj => by rw [zBeg1_lo _ _ a.2.2.1.1 hj, c j hj]⟩)
theorem zBeg1_is {c u2 u3 : Int} {V : Int → Int} (e1 : u2 = zBf c V) (e3 : u3 = 1 ↔ ¬ zBd c V = true) (h01 : u3 = 0 ∨ u3 = 1) : (¬ u3 = 0 → 0 ≤ u2 → zBeg1 c V = zup (zup V (96 + 47 * u2 + 4) 100) (96 + 47 * u2 + 6) 0) ∧ ((u3 = 0 ∨ u2 < 0) → zBeg1 c V = V) := by
  subst e1
  unfold zBeg1
  constructor
  · intro h1 h2
    have := e3.mp (by omega)
    rw [if_neg (fun q => q.elim this (fun z => by omega))]
  · intro h
    rw [if_pos]
    rcases h with h | h
    · left
      exact Decidable.byContradiction fun q => by have := e3.mpr q; omega
    · exact Or.inr h
theorem zall_step {P : Int → Prop} [DecidablePred P] {k : Nat} : zall P (k + 1) = true ↔ zall P k = true ∧ P k := by
  have hd : zall P (k + 1) = (zall P k && decide (P k)) := rfl
  rw [hd, Bool.and_eq_true, decide_eq_true_eq]
theorem zall_le {P : Int → Prop} [DecidablePred P] {k n : Nat} (h : zall P n = true) (hk : k ≤ n) : zall P k = true := zall_iff.mpr (fun q h0 h1 => zall_iff.mp h q h0 (by omega))
theorem zOkB_step {V : Int → Int} {p : Int} {k : Nat} : zOkB V p (k + 1) = true ↔ zOkB V p k = true ∧ zOk V p k := by
  unfold zOkB
  exact @zall_step (zOk V p) (zOk_dec V p) k
theorem zAr_step {V : Int → Int} {p u w : Int} {k : Nat} {B : Prop} [Decidable B] (hu : u = zb (B ∧ zOkB V p k = true)) (h0 : ¬ u = 0) (h : ((w = 1 ∨ w = u) ∧ zOk V p k) ∨ (w = 0 ∧ ¬ zOk V p k)) : w = zb (B ∧ zOkB V p (k + 1) = true) := by
  have hB : B ∧ zOkB V p k = true := Decidable.byContradiction fun q => h0 (by rw [hu, zb_f q])
  rcases h with ⟨h, h2⟩ | ⟨rfl, h2⟩
  · rw [zb_t ⟨hB.1, zOkB_step.mpr ⟨hB.2, h2⟩⟩]
    rw [zb_t hB] at hu
    omega
  · rw [zb_f (fun z => h2 (zOkB_step.mp z.2).2)]
theorem zAr_end {V : Int → Int} {p u : Int} {k : Nat} (hu : u = zb ((V (72 + 4 * V (96 + 47 * p + 2) + 1) = 1 ∧ zBF V (zhm V p) (zrc V p) < 1000) ∧ zOkB V p k = true)) (hx : (k : Int) = 5 ∨ u = 0) (hk : (k : Int) ≤ 5) : zb (zAr p V = true) = u := by
  have e : zAr p V = true ↔ (V (72 + 4 * V (96 + 47 * p + 2) + 1) = 1 ∧ zBF V (zhm V p) (zrc V p) < 1000) ∧ zOkB V p 5 = true := by
    unfold zAr
    simp only [Bool.and_eq_true, decide_eq_true_eq]
  rcases hx with hx | hx
  · have : k = 5 := by omega
    subst this
    rw [hu]
    congr 1
    exact propext e
  · rw [hx] at hu ⊢
    have hn := zb_0.mp hu.symm
    rw [zb_f]
    intro z
    refine hn ⟨(e.mp z).1, ?_⟩
    have h5 := (e.mp z).2
    unfold zOkB at h5 ⊢
    exact @zall_le (zOk V p) (zOk_dec V p) k 5 h5 (by omega)
