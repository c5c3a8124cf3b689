/-! the history: how the class's ring of nine States holds the model's list -/
theorem zRS_in {b : Int} {V : Int → Int} {M F M' F' : zMem} (h : zRS b V M F) (hV1 : V 1 ≤ 6) (hV2 : V 2 ≤ 8) (e : ∀ i, b ≤ i → i < b + 31 → M' i = M i ∧ F' i = F i) : zRS b V M' F' := by
  obtain ⟨hc, ht, hw, hh, hp, hm, ha⟩ := h
  have e6 := (e (b + 6) (by omega) (by omega)).2
  refine ⟨?_, ?_, ?_, ?_, ?_, ?_, ?_⟩
  · unfold zRc
    rw [(e (b + 1) (by omega) (by omega)).1, (e b (by omega) (by omega)).1]
    exact hc
  · intro i h0 h1
    rw [(e (b + 2) (by omega) (by omega)).1]
    exact ht i h0 h1
  · intro a c h0 h1
    rw [(e (b + 3) (by omega) (by omega)).1]
    exact hw a c h0 h1
  · intro q h0 h1
    rw [(e (b + 9 + q) (by omega) (by omega)).1]
    exact hh q h0 h1
  · exact ⟨fun p h8 => by rw [e6]; exact hp.1 p h8, fun p q h8 q8 => by rw [e6]; exact hp.2 p q h8 q8⟩
  · intro p h0 h1
    have hmo := hp.1 p ⟨h0, by omega⟩
    have hbd := zMo_bd hmo
    rw [e6]
    unfold zRm1
    rw [(e (F (b + 6) p) (by omega) (by omega)).1, (e (F (b + 6) p + 1) (by omega) (by omega)).1]
    exact hm p h0 h1
  · intro c t hc8 h0 h1
    rw [(e (b + 8) (by omega) (by omega)).1]
    exact ha c t hc8 h0 h1
theorem zRp_in {b : Int} {F F' : zMem} (h : zRp b F) (e : F' (b + 6) = F (b + 6)) : zRp b F' := ⟨fun p h8 => by rw [e]; exact h.1 p h8, fun p q h8 q8 => by rw [e]; exact h.2 p q h8 q8⟩
def znx (n : Int) : Int := if n = 8 then 0 else n + 1
def zpv (n : Int) : Int := if n = 0 then 8 else n - 1
def zm8 (n : Int) : Int := if n + 1 ≤ 8 then n + 1 else 8
theorem znx_bd {n : Int} (h : 0 ≤ n ∧ n ≤ 8) : 0 ≤ znx n ∧ znx n ≤ 8 := by
  unfold znx
  split <;> omega
theorem zpv_bd {n : Int} (h : 0 ≤ n ∧ n ≤ 8) : 0 ≤ zpv n ∧ zpv n ≤ 8 := by
  unfold zpv
  split <;> omega
/-- the place of the State that was kept k changes ago, n being the next place -/
def zHp (n k : Int) : Int := 96 + 31 * ((n - 1 - k) % 9)
theorem zHp_bd (n k : Int) : ∃ t, 0 ≤ t ∧ t < 9 ∧ zHp n k = 96 + 31 * t := ⟨(n - 1 - k) % 9, by omega, by omega, rfl⟩
theorem zHp_ne {n k : Int} (h : 0 ≤ n ∧ n ≤ 8) (h0 : 0 ≤ k) (h1 : k < 8) : zHp n k + 31 ≤ 96 + 31 * n ∨ 96 + 31 * n + 31 ≤ zHp n k := by
  unfold zHp
  omega
theorem zHp_nx {n k : Int} (h : 0 ≤ n ∧ n ≤ 8) : zHp (znx n) k = zHp n (k - 1) := by
  have e : (znx n - 1 - k) % 9 = (n - 1 - (k - 1)) % 9 := by
    unfold znx
    split <;> omega
  unfold zHp
  rw [e]
theorem zHp_n0 {n : Int} (h : 0 ≤ n ∧ n ≤ 8) : zHp n (-1) = 96 + 31 * n := by
  have e : (n - 1 - -1) % 9 = n := by omega
  unfold zHp
  rw [e]
theorem zHp_pv {n k : Int} (h : 0 ≤ n ∧ n ≤ 8) : zHp (zpv n) k = zHp n (k + 1) := by
  have e : (zpv n - 1 - k) % 9 = (n - 1 - (k + 1)) % 9 := by
    unfold zpv
    split <;> omega
  unfold zHp
  rw [e]
theorem zHp_p0 {n : Int} (h : 0 ≤ n ∧ n ≤ 8) : zHp n 0 = 96 + 31 * zpv n := by
  have e : (n - 1 - 0) % 9 = zpv n := by
    unfold zpv
    split <;> omega
  unfold zHp
  rw [e]
/-- what holds of a state at rest -/
def zGd (zt : Int) (V : Int → Int) : Prop := zIV zt V ∧ zTD V ∧ zP0 V
theorem zGd.v1 {zt : Int} {V : Int → Int} (h : zGd zt V) : V 1 ≤ 6 := h.1.2.1.2
theorem zGd.v2 {zt : Int} {V : Int → Int} (h : zGd zt V) : V 2 ≤ 8 := h.1.2.2.1.2
/-- the ring holds 'many' States, U k the one of k changes ago -/
def zHi (zt many : Int) (U : Int → Int → Int) (M F : zMem) : Prop := M 94 2 = many ∧ (0 ≤ M 94 1 ∧ M 94 1 ≤ 8) ∧ (0 ≤ many ∧ many ≤ 8) ∧ (∀ k, 0 ≤ k → k < many → zRS (zHp (M 94 1) k) (U k) M F ∧ zGd zt (U k)) ∧ ∀ t, 0 ≤ t → t < 9 → zRp (96 + 31 * t) F
/-- rows that the history doesn't own may change -/
theorem zHi_in {zt many : Int} {U : Int → Int → Int} {M F M' F' : zMem} (h : zHi zt many U M F) (e : ∀ i, 94 ≤ i → i < 375 → M' i = M i ∧ F' i = F i) : zHi zt many U M' F' := by
  obtain ⟨h1, h2, h3, h4, h5⟩ := h
  have e94 := (e 94 (by omega) (by omega)).1
  refine ⟨by rw [e94]; exact h1, by rw [e94]; exact h2, h3, fun k k0 k1 => ⟨?_, (h4 k k0 k1).2⟩, fun t t0 t1 => zRp_in (h5 t t0 t1) (e _ (by omega) (by omega)).2⟩
  rw [e94]
  obtain ⟨t, t0, t1, et⟩ := zHp_bd (M 94 1) k
  have hk := h4 k k0 k1
  exact zRS_in hk.1 hk.2.v1 hk.2.v2 (fun i i0 i1 => e i (by omega) (by omega))
/-- the next place may be written -/
theorem zHi_prep {zt many : Int} {U : Int → Int → Int} {M F M' : zMem} (h : zHi zt many U M F) (ho : zOut (96 + 31 * M 94 1) M F M' F) : zHi zt many U M' F := by
  obtain ⟨h1, h2, h3, h4, h5⟩ := h
  have e94 := (ho 94 (by omega)).1
  refine ⟨by rw [e94]; exact h1, by rw [e94]; exact h2, h3, fun k k0 k1 => ⟨?_, (h4 k k0 k1).2⟩, h5⟩
  rw [e94]
  have hne := zHp_ne h2 k0 (by omega : k < 8)
  have hk := h4 k k0 k1
  exact zRS_in hk.1 hk.2.v1 hk.2.v2 (fun i i0 i1 => ho i (by omega))
/-- a change is kept -/
theorem zHi_keep {zt many : Int} {U : Int → Int → Int} {V : Int → Int} {M F : zMem} (h : zHi zt many U M F) (hV : zRS (96 + 31 * M 94 1) V M F) (ok : zGd zt V) :
    zHi zt (zm8 many) (fun k => if k = 0 then V else U (k - 1)) (zu (zu M 94 1 (znx (M 94 1))) 94 2 (zm8 many)) F := by
  obtain ⟨h1, h2, h3, h4, h5⟩ := h
  have q := znx_bd h2
  have q8 : 0 ≤ zm8 many ∧ zm8 many ≤ 8 ∧ zm8 many ≤ many + 1 := by
    unfold zm8
    split <;> omega
  have e1 : zu (zu M 94 1 (znx (M 94 1))) 94 2 (zm8 many) 94 1 = znx (M 94 1) := by
    rw [zu_ne (by omega)]
    exact zu_same _ _ _ _
  have er : ∀ i, i ≠ 94 → zu (zu M 94 1 (znx (M 94 1))) 94 2 (zm8 many) i = M i := fun i hi => (zu_row hi).trans (zu_row hi)
  refine ⟨zu_same _ _ _ _, by rw [e1]; exact q, ⟨q8.1, q8.2.1⟩, fun k k0 k1 => ?_, h5⟩
  rw [e1, zHp_nx h2]
  by_cases hk : k = 0
  · subst hk
    show zRS (zHp (M 94 1) (-1)) V _ F ∧ zGd zt V
    rw [zHp_n0 h2]
    exact ⟨zRS_in hV ok.v1 ok.v2 (fun i i0 i1 => ⟨er i (by omega), rfl⟩), ok⟩
  · show zRS (zHp (M 94 1) (k - 1)) (if k = 0 then V else U (k - 1)) _ F ∧ zGd zt (if k = 0 then V else U (k - 1))
    rw [if_neg hk]
    have hk' := h4 (k - 1) (by omega) (by omega)
    obtain ⟨t, t0, t1, et⟩ := zHp_bd (M 94 1) (k - 1)
    exact ⟨zRS_in hk'.1 hk'.2.v1 hk'.2.v2 (fun i i0 i1 => ⟨er i (by omega), rfl⟩), hk'.2⟩
/-- a change is taken back -/
theorem zHi_back {zt many : Int} {U : Int → Int → Int} {M F : zMem} (h : zHi zt many U M F) (hm : 0 < many) :
    zHi zt (many - 1) (fun k => U (k + 1)) (zu (zu M 94 2 (many - 1)) 94 1 (zpv (M 94 1))) F ∧ zRS (96 + 31 * zpv (M 94 1)) (U 0) (zu (zu M 94 2 (many - 1)) 94 1 (zpv (M 94 1))) F := by
  obtain ⟨h1, h2, h3, h4, h5⟩ := h
  have q := zpv_bd h2
  have e1 : zu (zu M 94 2 (many - 1)) 94 1 (zpv (M 94 1)) 94 1 = zpv (M 94 1) := zu_same _ _ _ _
  have e2 : zu (zu M 94 2 (many - 1)) 94 1 (zpv (M 94 1)) 94 2 = many - 1 := by
    rw [zu_ne (by omega)]
    exact zu_same _ _ _ _
  have er : ∀ i, i ≠ 94 → zu (zu M 94 2 (many - 1)) 94 1 (zpv (M 94 1)) i = M i := fun i hi => (zu_row hi).trans (zu_row hi)
  have go : ∀ k, 0 ≤ k → k < many → zRS (zHp (M 94 1) k) (U k) (zu (zu M 94 2 (many - 1)) 94 1 (zpv (M 94 1))) F := fun k k0 k1 => by
    have hk' := h4 k k0 k1
    obtain ⟨t, t0, t1, et⟩ := zHp_bd (M 94 1) k
    exact zRS_in hk'.1 hk'.2.v1 hk'.2.v2 (fun i i0 i1 => ⟨er i (by omega), rfl⟩)
  refine ⟨⟨e2, by rw [e1]; exact q, by omega, fun k k0 k1 => ?_, h5⟩, ?_⟩
  · rw [e1, zHp_pv h2]
    exact ⟨go (k + 1) (by omega) (by omega), (h4 (k + 1) (by omega) (by omega)).2⟩
  · rw [← zHp_p0 h2]
    exact go 0 (by omega) hm
