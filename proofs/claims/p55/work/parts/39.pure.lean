/-! ways: bounds and bits -/
abbrev zb64 (W : Int → Int) : Prop := ∀ i, 0 ≤ i → i < 64 → 0 ≤ W i ∧ W i ≤ 1000
theorem zfF_step {f t fp : Int} {k : Nat} {W r r' : Int → Int} (hr : r = zfF f t fp k W) (h : (fp + r (t * 8 + k) < r (f * 8 + k) ∧ r' = zup r (f * 8 + k) (fp + r (t * 8 + k))) ∨ (¬ fp + r (t * 8 + k) < r (f * 8 + k) ∧ r' = r)) : r' = zfF f t fp (k + 1) W := by
  show r' = if fp + zfF f t fp k W (8 * t + k) < zfF f t fp k W (8 * f + k) then zup (zfF f t fp k W) (8 * f + k) (fp + zfF f t fp k W (8 * t + k)) else zfF f t fp k W
  rw [← hr, Int.mul_comm 8 t, Int.mul_comm 8 f]
  rcases h with ⟨h, e⟩ | ⟨h, e⟩
  · rw [if_pos h, e]
  · rw [if_neg h, e]
theorem zup_bd64 {r : Int → Int} {t v : Int} (h : zb64 r) (hv : 0 ≤ v ∧ v ≤ 1000) : zb64 (zup r t v) := by
  intro i h0 h1
  unfold zup
  split
  · exact hv
  · exact h i h0 h1
theorem zfF_bd {f t fp : Int} {W : Int → Int} (hf : zc8 f) (ht : zc8 t) (hfp : 0 ≤ fp) (h : zb64 W) : ∀ n : Nat, n ≤ 8 → zb64 (zfF f t fp n W)
  | 0, _ => h
  | n + 1, hn => by
    have ih := zfF_bd hf ht hfp h n (by omega)
    have hd : zfF f t fp (n + 1) W = if fp + zfF f t fp n W (8 * t + n) < zfF f t fp n W (8 * f + n) then zup (zfF f t fp n W) (8 * f + n) (fp + zfF f t fp n W (8 * t + n)) else zfF f t fp n W := rfl
    have b1 := ih (8 * t + n) (by have := ht.1; omega) (by have := ht.2; omega)
    have b2 := ih (8 * f + n) (by have := hf.1; omega) (by have := hf.2; omega)
    rw [hd]
    split
    · exact zup_bd64 ih (by omega)
    · exact ih
theorem zfR_bd {t : Int} {W : Int → Int} (ht : zc8 t) (h : zb64 W) : ∀ n : Nat, n ≤ 8 → zb64 (zfR t n W)
  | 0, _ => h
  | n + 1, hn => by
    have ih := zfR_bd ht h n (by omega)
    exact zfF_bd (f := (n : Int)) ⟨by omega, by omega⟩ ht (ih _ (by have := ht.1; omega) (by have := ht.2; omega)).1 ih 8 (by omega)
theorem zfA_bd {W : Int → Int} (h : zb64 W) : ∀ n : Nat, n ≤ 8 → zb64 (zfA n W)
  | 0, _ => h
  | n + 1, hn => zfR_bd (t := (n : Int)) ⟨by omega, by omega⟩ (zfA_bd h n (by omega)) 8 (by omega)
theorem zfold_s {σ : Type} (f : Int → σ → σ) (n : Nat) (s : σ) : zfold f (n + 1) s = f n (zfold f n s) := rfl
theorem zfR_s (t : Int) (n : Nat) (W : Int → Int) : zfR t (n + 1) W = zfF n t (zfR t n W (8 * n + t)) 8 (zfR t n W) := zfold_s (fun f W => zfF f t (W (8 * f + t)) 8 W) n W
theorem zfA_s (n : Nat) (W : Int → Int) : zfA (n + 1) W = zfR n 8 (zfA n W) := rfl
/-- the nearest, from any row that begins so -/
def zDjW (V W : Int → Int) : Nat → (Int → Int) × Int
  | 0 => (W, 0)
  | n + 1 => zDs V (zDjW V W n)
theorem zDjW_I {V W : Int → Int} {a : Int} (hT : ∀ i, 8 ≤ i → i < 72 → 0 ≤ V i ∧ V i ≤ 9) (ha : zc8 a) (hW : ∀ v, 0 ≤ v → v < 8 → W v = zNr a v) : ∀ n : Nat, zDI V a n (zDjW V W n)
  | 0 => by
    obtain ⟨⟨h1, h2⟩, h3, h4, h5, h6, h7⟩ := zDI_0 (V := V) ha
    refine ⟨⟨(hW a ha.1 ha.2).trans h1, fun v hv => ?_⟩, h3, fun u hu hz => ?_, fun u v hu hv hz hz2 => ?_, fun v hv hne hlt => ?_, h7.imp id (fun q v hv hz => ?_)⟩
    · show 0 ≤ W v ∧ W v ≤ 1000
      rw [hW v hv.1 hv.2]
      exact h2 v hv
    · have := h4 u hu hz
      refine ⟨by show W u < 1000; rw [hW u hu.1 hu.2]; exact this.1, fun v hv hw => ?_⟩
      show W v ≤ W u + _
      rw [hW u hu.1 hu.2, hW v hv.1 hv.2]
      exact this.2 v hv hw
    · show W u ≤ W v
      rw [hW u hu.1 hu.2, hW v hv.1 hv.2]
      exact h5 u v hu hv hz hz2
    · have hlt' : W v < 1000 := hlt
      rw [hW v hv.1 hv.2] at hlt'
      obtain ⟨u, hu, q1, q2, q3⟩ := h6 v hv hne hlt'
      refine ⟨u, hu, q1, q2, ?_⟩
      show W u + _ ≤ W v
      rw [hW u hu.1 hu.2, hW v hv.1 hv.2]
      exact q3
    · show 1000 ≤ W v
      rw [hW v hv.1 hv.2]
      exact q v hv hz
  | n + 1 => zDI_step hT ha (zDjW_I hT ha hW n)
theorem zDjW_BF {V W : Int → Int} {a v : Int} (hT : ∀ i, 8 ≤ i → i < 72 → 0 ≤ V i ∧ V i ≤ 9) (ha : zc8 a) (hW : ∀ v, 0 ≤ v → v < 8 → W v = zNr a v) (hv : zc8 v) : (zDjW V W 8).1 v = zBF V a v := by
  obtain ⟨⟨ha0, hb⟩, hf, hu, hle, hp, hk⟩ := zDjW_I hT ha hW 8
  have hor : ∀ u, zc8 u → zbi (zDjW V W 8).2 u = 1 ∨ 1000 ≤ (zDjW V W 8).1 u := fun u h8 => by
    rcases hk with hk | hk
    · exact Or.inl (zcnt_all (P := fun c => zbi (zDjW V W 8).2 c = 1) 8 hk u h8.1 h8.2)
    · rcases zbi_01 (zDjW V W 8).2 u with q | q
      · exact Or.inr (hk u h8 q)
      · exact Or.inl q
  refine zBF_is (D := (zDjW V W 8).1) ⟨ha0, fun w w0 w8 => hb w ⟨w0, w8⟩, fun u w u0 u8 w0 w8 hw => ?_, fun w w0 w8 hne hlt => ?_⟩ ha v hv.1 hv.2
  · rcases hor u ⟨u0, u8⟩ with q | q
    · exact (hu u ⟨u0, u8⟩ q).2 w ⟨w0, w8⟩ hw
    · have := (hb w ⟨w0, w8⟩).2
      omega
  · obtain ⟨u, h8, q1, h1, h2⟩ := hp w ⟨w0, w8⟩ hne hlt
    exact ⟨u, h8.1, h8.2, h1, h2⟩
theorem zbit_dec : ∀ f : Fin 256, ∀ k : Fin 8, Int32.ofNat f.val &&& Int32.ofNat (2 ^ k.val) = Int32.ofNat ((f.val / 2 ^ k.val % 2) * 2 ^ k.val) ∧ (f.val / 2 ^ k.val % 2 = 0 → Int32.ofNat f.val ||| Int32.ofNat (2 ^ k.val) = Int32.ofNat (f.val + 2 ^ k.val)) := by decide +kernel
theorem zI_nat (n : Nat) : zI (n : Int) = Int32.ofNat n := zI_nI n
theorem zbit_and {f k : Int} (hf : 0 ≤ f ∧ f < 256) (hk : zc8 k) : zI f &&& zI (2 ^ k.toNat) = zI (zbi f k * 2 ^ k.toNat) ∧ (zbi f k * 2 ^ k.toNat = 0 ↔ zbi f k = 0) ∧ 0 ≤ zbi f k * 2 ^ k.toNat ∧ zbi f k * 2 ^ k.toNat < 256 := by
  obtain ⟨F, rfl⟩ : ∃ n : Nat, f = n := ⟨f.toNat, by omega⟩
  obtain ⟨m, rfl⟩ : ∃ n : Nat, k = n := ⟨k.toNat, by have := hk.1; omega⟩
  have hF : F < 256 := by omega
  have hm : m < 8 := by have := hk.2; omega
  have h := (zbit_dec ⟨F, hF⟩ ⟨m, hm⟩).1
  have e : (2 : Int) ^ ((m : Int)).toNat = ((2 ^ m : Nat) : Int) := by
    rw [Int.toNat_natCast]
    norm_cast
  have e2 : ((F / 2 ^ m % 2 : Nat) : Int) * ((2 ^ m : Nat) : Int) = ((F / 2 ^ m % 2 * 2 ^ m : Nat) : Int) := by norm_cast
  have hp : 0 < 2 ^ m := Nat.pow_pos (by decide)
  have hp2 : 2 ^ m ≤ 128 := Nat.pow_le_pow_right (by decide) (show m ≤ 7 by omega)
  rw [zbi_nat, e, e2, zI_nat, zI_nat, zI_nat]
  have h01 : F / 2 ^ m % 2 = 0 ∨ F / 2 ^ m % 2 = 1 := by omega
  refine ⟨h, ?_, by omega, ?_⟩
  · rcases h01 with q | q <;> rw [q] <;> constructor <;> intro z <;> first | omega | simp
  · rcases h01 with q | q <;> rw [q] <;> omega
theorem zbit_or {f k : Int} (hf : 0 ≤ f ∧ f < 256) (hk : zc8 k) (h0 : zbi f k = 0) : zI f ||| zI (2 ^ k.toNat) = zI (f + 2 ^ k.toNat) := by
  obtain ⟨F, rfl⟩ : ∃ n : Nat, f = n := ⟨f.toNat, by omega⟩
  obtain ⟨m, rfl⟩ : ∃ n : Nat, k = n := ⟨k.toNat, by have := hk.1; omega⟩
  have hF : F < 256 := by omega
  have hm : m < 8 := by have := hk.2; omega
  have e : (2 : Int) ^ ((m : Int)).toNat = ((2 ^ m : Nat) : Int) := by
    rw [Int.toNat_natCast]
    norm_cast
  have e2 : (F : Int) + ((2 ^ m : Nat) : Int) = ((F + 2 ^ m : Nat) : Int) := by norm_cast
  rw [zbi_nat] at h0
  rw [e, e2, zI_nat, zI_nat, zI_nat]
  exact (zbit_dec ⟨F, hF⟩ ⟨m, hm⟩).2 (by show F / 2 ^ m % 2 = 0; omega)
