/-! shortest delays: what the three ways of finding them have in common -/
/-- d holds the shortest delays from a -/
def zSP (V : Int → Int) (a : Int) (d : Int → Int) : Prop :=
  d a = 0 ∧ (∀ v, 0 ≤ v → v < 8 → 0 ≤ d v ∧ d v ≤ 1000) ∧ (∀ u v, 0 ≤ u → u < 8 → 0 ≤ v → v < 8 → 0 < V (8 + 8 * u + v) → d v ≤ d u + V (8 + 8 * u + v)) ∧
  (∀ v, 0 ≤ v → v < 8 → v ≠ a → d v < 1000 → ∃ u, 0 ≤ u ∧ u < 8 ∧ 0 < V (8 + 8 * u + v) ∧ d u + V (8 + 8 * u + v) ≤ d v)
theorem zSP_le {V : Int → Int} {a : Int} {d d' : Int → Int} (h : zSP V a d) (h' : zSP V a d') : ∀ (n : Nat) (v : Int), 0 ≤ v → v < 8 → d v ≤ n → d v < 1000 → d' v ≤ d v := by
  intro n
  induction n using Nat.strongRecOn with
  | _ n ih =>
    intro v v0 v8 hn hlt
    by_cases hv : v = a
    · rw [hv, h.1, h'.1]
      exact Int.le_refl 0
    · obtain ⟨u, u0, u8, hw, hu⟩ := h.2.2.2 v v0 v8 hv hlt
      have b1 := (h.2.1 u u0 u8).1
      have h1 := ih (d u).toNat (by omega) u u0 u8 (by omega) (by omega)
      have h2 := h'.2.2.1 u v u0 u8 v0 v8 hw
      omega
theorem zSP_one {V : Int → Int} {a : Int} {d d' : Int → Int} (h : zSP V a d) (h' : zSP V a d') (v : Int) (v0 : 0 ≤ v) (v8 : v < 8) : d v = d' v := by
  have b1 := h.2.1 v v0 v8
  have b2 := h'.2.1 v v0 v8
  have h1 : d' v ≤ d v := by
    by_cases q : d v < 1000
    · exact zSP_le h h' (d v).toNat v v0 v8 (by omega) q
    · omega
  have h2 : d v ≤ d' v := by
    by_cases q : d' v < 1000
    · exact zSP_le h' h (d' v).toNat v v0 v8 (by omega) q
    · omega
  omega
theorem zcnt_bd {P : Int → Prop} [DecidablePred P] : ∀ n : Nat, 0 ≤ zcnt P n ∧ zcnt P n ≤ n
  | 0 => ⟨Int.le_refl 0, Int.le_refl 0⟩
  | n + 1 => by
    have ih := zcnt_bd (P := P) n
    have hd : zcnt P (n + 1) = zcnt P n + zb (P n) := rfl
    have := zb_01 (P n)
    omega
theorem zcnt_le {P Q : Int → Prop} [DecidablePred P] [DecidablePred Q] (h : ∀ q, P q → Q q) : ∀ n : Nat, zcnt P n ≤ zcnt Q n
  | 0 => Int.le_refl 0
  | n + 1 => by
    have ih := zcnt_le h n
    have hd : zcnt P (n + 1) = zcnt P n + zb (P n) := rfl
    have he : zcnt Q (n + 1) = zcnt Q n + zb (Q n) := rfl
    have : zb (P n) ≤ zb (Q n) := by
      by_cases hp : P n
      · rw [zb_t hp, zb_t (h _ hp)]; exact Int.le_refl 1
      · rw [zb_f hp]
        have := zb_01 (Q n)
        omega
    omega
theorem zcnt_lt {P Q : Int → Prop} [DecidablePred P] [DecidablePred Q] (h : ∀ q, P q → Q q) {u : Int} (hP : ¬ P u) (hQ : Q u) : ∀ n : Nat, 0 ≤ u → u < n → zcnt P n < zcnt Q n
  | 0, h0, h1 => by omega
  | n + 1, h0, h1 => by
    have hd : zcnt P (n + 1) = zcnt P n + zb (P n) := rfl
    have he : zcnt Q (n + 1) = zcnt Q n + zb (Q n) := rfl
    have h4 := zcnt_le h n
    by_cases e : u = n
    · rw [e] at hP hQ
      have h2 : zb (P n) = 0 := zb_f hP
      have h3 : zb (Q n) = 1 := zb_t hQ
      omega
    · have h2 := zcnt_lt h hP hQ n h0 (by omega)
      have : zb (P n) ≤ zb (Q n) := by
        by_cases hp : P n
        · rw [zb_t hp, zb_t (h _ hp)]; exact Int.le_refl 1
        · rw [zb_f hp]
          have := zb_01 (Q n)
          omega
      omega
theorem zcnt_all {P : Int → Prop} [DecidablePred P] : ∀ n : Nat, (n : Int) ≤ zcnt P n → ∀ q : Int, 0 ≤ q → q < n → P q
  | 0, _, q, h0, h1 => by omega
  | n + 1, h, q, h0, h1 => by
    have hd : zcnt P (n + 1) = zcnt P n + zb (P n) := rfl
    have hb := zcnt_bd (P := P) n
    have h01 := zb_01 (P n)
    by_cases e : q = n
    · rw [e]
      exact Decidable.byContradiction fun z => by
        have : zb (P n) = 0 := zb_f z
        omega
    · exact zcnt_all n (by omega) q h0 (by omega)
/-! by rounds over all tunnels -/
abbrev zrk (D : Int → Int) (v : Int) : Int := zcnt (fun u => D u < D v) 8
def zBOk (D : Int → Int) (a k : Int) (q : Int → Int) : Prop :=
  q a ≤ 0 ∧ (∀ v, 0 ≤ v → v < 8 → D v ≤ q v ∧ q v ≤ 1000) ∧ ∀ v, 0 ≤ v → v < 8 → zrk D v ≤ k → q v ≤ D v
theorem zrx_le (V : Int → Int) (a b : Int) (q : Int → Int) (j : Int) : zrx V a b q j ≤ q j := by
  unfold zrx
  split
  · rename_i h
    rw [h.1]
    omega
  · exact Int.le_refl _
theorem zrx_Ok {V D q : Int → Int} {a k x y : Int} (hD : zSP V a D) (ha : 0 ≤ a ∧ a < 8) (hx : 0 ≤ x ∧ x < 8) (hy : 0 ≤ y ∧ y < 8) (h : zBOk D a k q) : zBOk D a k (zrx V x y q) ∧ (zrk D x ≤ k → 0 < V (8 + 8 * x + y) → zrx V x y q y ≤ D x + V (8 + 8 * x + y)) := by
  obtain ⟨h1, h2, h3⟩ := h
  refine ⟨⟨Int.le_trans (zrx_le V x y q a) h1, fun v v0 v8 => ⟨?_, Int.le_trans (zrx_le V x y q v) (h2 v v0 v8).2⟩, fun v v0 v8 hk => Int.le_trans (zrx_le V x y q v) (h3 v v0 v8 hk)⟩, fun hk hw => ?_⟩
  · have b1 := (h2 v v0 v8).1
    have b2 := (h2 x hx.1 hx.2).1
    unfold zrx
    split
    · rename_i hc
      have := hD.2.2.1 x v hx.1 hx.2 v0 v8 (by rw [hc.1]; exact hc.2.1)
      rw [hc.1] at this ⊢
      omega
    · exact b1
  · have b1 := h3 x hx.1 hx.2 hk
    unfold zrx
    split
    · omega
    · rename_i hc
      have : ¬ (q x + V (8 + 8 * x + y) < q y) := fun z => hc ⟨rfl, hw, z⟩
      show q y ≤ D x + V (8 + 8 * x + y)
      omega
theorem zrxB_Ok {V D q : Int → Int} {a k x : Int} (hD : zSP V a D) (ha : 0 ≤ a ∧ a < 8) (hx : 0 ≤ x ∧ x < 8) (h : zBOk D a k q) : ∀ n : Nat, n ≤ 8 → zBOk D a k (zfold (fun b q => zrx V x b q) n q) ∧ (∀ j, zfold (fun b q => zrx V x b q) n q j ≤ q j) ∧ ∀ y, 0 ≤ y → y < (n : Int) → zrk D x ≤ k → 0 < V (8 + 8 * x + y) → zfold (fun b q => zrx V x b q) n q y ≤ D x + V (8 + 8 * x + y)
  | 0, _ => ⟨h, fun j => Int.le_refl _, fun y h0 h1 => by omega⟩
  | n + 1, hn => by
    obtain ⟨i1, i2, i3⟩ := zrxB_Ok hD ha hx h n (by omega)
    obtain ⟨s1, s2⟩ := zrx_Ok (x := x) (y := (n : Int)) hD ha hx ⟨by omega, by omega⟩ i1
    refine ⟨s1, fun j => Int.le_trans (zrx_le _ _ _ _ j) (i2 j), fun y y0 y1 hk hw => ?_⟩
    by_cases e : y = n
    · rw [e] at hw ⊢
      exact s2 hk hw
    · exact Int.le_trans (zrx_le _ _ _ _ y) (i3 y y0 (by omega) hk hw)
theorem zrxA_Ok {V D q : Int → Int} {a k : Int} (hD : zSP V a D) (ha : 0 ≤ a ∧ a < 8) (h : zBOk D a k q) : ∀ n : Nat, n ≤ 8 → zBOk D a k (zfold (fun x q => zrxB V x q) n q) ∧ (∀ j, zfold (fun x q => zrxB V x q) n q j ≤ q j) ∧ ∀ x y, 0 ≤ x → x < (n : Int) → 0 ≤ y → y < 8 → zrk D x ≤ k → 0 < V (8 + 8 * x + y) → zfold (fun x q => zrxB V x q) n q y ≤ D x + V (8 + 8 * x + y)
  | 0, _ => ⟨h, fun j => Int.le_refl _, fun x y h0 h1 => by omega⟩
  | n + 1, hn => by
    obtain ⟨i1, i2, i3⟩ := zrxA_Ok hD ha h n (by omega)
    obtain ⟨s1, s2, s3⟩ := zrxB_Ok (x := (n : Int)) hD ha ⟨by omega, by omega⟩ i1 8 (by omega)
    refine ⟨s1, fun j => Int.le_trans (s2 j) (i2 j), fun x y x0 x1 y0 y1 hk hw => ?_⟩
    by_cases e : x = n
    · rw [e] at hw hk ⊢
      exact s3 y y0 (by omega) hk hw
    · exact Int.le_trans (s2 y) (i3 x y x0 (by omega) y0 y1 hk hw)
theorem zBF_rd {V D : Int → Int} {a : Int} (hD : zSP V a D) (ha : 0 ≤ a ∧ a < 8) : ∀ n : Nat, zBOk D a n (zfold (fun _ q => zrxA V q) n (zNr a))
  | 0 => by
    refine ⟨?_, fun v v0 v8 => ?_, fun v v0 v8 hk => ?_⟩
    · show zNr a a ≤ 0
      unfold zNr
      rw [if_pos rfl]
      exact Int.le_refl 0
    · have b := hD.2.1 v v0 v8
      show D v ≤ zNr a v ∧ zNr a v ≤ 1000
      unfold zNr
      split
      · rename_i e
        rw [e, hD.1]
        omega
      · omega
    · show zNr a v ≤ D v
      have b := hD.2.1 v v0 v8
      unfold zNr
      split
      · omega
      · rename_i e
        by_cases q : D v < 1000
        · obtain ⟨u, u0, u8, hw, hu⟩ := hD.2.2.2 v v0 v8 e q
          have h2 : zcnt (fun x => D x < D u) 8 < zrk D v := zcnt_lt (P := fun x => D x < D u) (Q := fun x => D x < D v) (u := u) (fun q hq => by omega) (Int.lt_irrefl _) (by omega) 8 u0 u8
          have h3 := (zcnt_bd (P := fun x => D x < D u) 8).1
          omega
        · omega
  | n + 1 => by
    have ih := zBF_rd hD ha n
    obtain ⟨i1, i2, i3⟩ := zrxA_Ok (k := (n : Int)) hD ha ih 8 (by omega)
    show zBOk D a ((n + 1 : Nat) : Int) (zrxA V (zfold (fun _ q => zrxA V q) n (zNr a)))
    refine ⟨i1.1, i1.2.1, fun v v0 v8 hk => ?_⟩
    by_cases e : v = a
    · rw [e, hD.1]
      exact i1.1
    · by_cases q : D v < 1000
      · obtain ⟨u, u0, u8, hw, hu⟩ := hD.2.2.2 v v0 v8 e q
        have h2 : zrk D u < zrk D v := zcnt_lt (P := fun x => D x < D u) (Q := fun x => D x < D v) (u := u) (fun q hq => by omega) (Int.lt_irrefl _) (by omega) 8 u0 u8
        exact Int.le_trans (i3 u v u0 u8 v0 v8 (by omega) hw) hu
      · have b := hD.2.1 v v0 v8
        have := (i1.2.1 v v0 v8).2
        show zrxA V (zfold (fun _ q => zrxA V q) n (zNr a)) v ≤ D v
        exact Int.le_trans this (by omega)
theorem zBF_is {V D : Int → Int} {a : Int} (hD : zSP V a D) (ha : 0 ≤ a ∧ a < 8) (v : Int) (v0 : 0 ≤ v) (v8 : v < 8) : D v = zBF V a v := by
  obtain ⟨-, h2, h3⟩ := zBF_rd hD ha 8
  have b1 := (h2 v v0 v8).1
  have b2 := h3 v v0 v8 (zcnt_bd (P := fun u => D u < D v) 8).2
  unfold zBF
  omega
/-! by improving all pairs -/
abbrev zc8 (x : Int) : Prop := 0 ≤ x ∧ x < 8
def zfF (f t fp : Int) : Nat → (Int → Int) → (Int → Int) := zfold (fun to W => if fp + W (8 * t + to) < W (8 * f + to) then zup W (8 * f + to) (fp + W (8 * t + to)) else W)
def zfR (t : Int) : Nat → (Int → Int) → (Int → Int) := zfold (fun f W => zfF f t (W (8 * f + t)) 8 W)
def zfA : Nat → (Int → Int) → (Int → Int)
  | 0, W => W
  | n + 1, W => zfR n 8 (zfA n W)
def zvl (f t j : Int) (W : Int → Int) : Int := if W (8 * f + t) + W (8 * t + j) < W (8 * f + j) then W (8 * f + t) + W (8 * t + j) else W (8 * f + j)
theorem zfF_is {f t : Int} {W : Int → Int} (hf : zc8 f) (ht : zc8 t) (h0 : W (8 * t + t) = 0) : ∀ n : Nat, n ≤ 8 → ∀ i j, zc8 i → zc8 j → zfF f t (W (8 * f + t)) n W (8 * i + j) = if i = f ∧ j < n then zvl f t j W else W (8 * i + j)
  | 0, _, i, j, hi, hj => by
    rw [if_neg (by omega)]
    rfl
  | n + 1, hn, i, j, hi, hj => by
    have ih := zfF_is hf ht h0 n (by omega)
    have hd : zfF f t (W (8 * f + t)) (n + 1) W = (if W (8 * f + t) + zfF f t (W (8 * f + t)) n W (8 * t + n) < zfF f t (W (8 * f + t)) n W (8 * f + n) then zup (zfF f t (W (8 * f + t)) n W) (8 * f + n) (W (8 * f + t) + zfF f t (W (8 * f + t)) n W (8 * t + n)) else zfF f t (W (8 * f + t)) n W) := rfl
    have e1 : zfF f t (W (8 * f + t)) n W (8 * f + n) = W (8 * f + n) := by rw [ih f n hf ⟨by omega, by omega⟩, if_neg (by omega)]
    have e2 : zfF f t (W (8 * f + t)) n W (8 * t + n) = W (8 * t + n) := by rw [ih t n ht ⟨by omega, by omega⟩, if_neg (by omega)]
    rw [hd, e1, e2]
    by_cases hc : W (8 * f + t) + W (8 * t + n) < W (8 * f + n)
    · rw [if_pos hc]
      by_cases e : i = f ∧ j = n
      · obtain ⟨rfl, rfl⟩ := e
        rw [zup_same, if_pos ⟨rfl, by omega⟩, zvl, if_pos hc]
      · rw [zup_ne (fun q => e (by omega)), ih i j hi hj]
        by_cases e3 : i = f ∧ j < n
        · rw [if_pos e3, if_pos ⟨e3.1, by omega⟩]
        · rw [if_neg e3, if_neg (fun q => e3 ⟨q.1, by omega⟩)]
    · rw [if_neg hc, ih i j hi hj]
      by_cases e : i = f ∧ j = n
      · obtain ⟨rfl, rfl⟩ := e
        rw [if_neg (by omega), if_pos ⟨rfl, by omega⟩, zvl, if_neg hc]
      · by_cases e3 : i = f ∧ j < n
        · rw [if_pos e3, if_pos ⟨e3.1, by omega⟩]
        · rw [if_neg e3, if_neg (fun q => e3 ⟨q.1, by omega⟩)]
theorem zvl_p {t j : Int} {W : Int → Int} (h0 : W (8 * t + t) = 0) : zvl t t j W = W (8 * t + j) := by
  unfold zvl
  rw [h0, if_neg (by omega)]
theorem zvl_c {f t : Int} {W : Int → Int} (h0 : W (8 * t + t) = 0) : zvl f t t W = W (8 * f + t) := by
  unfold zvl
  rw [h0, if_neg (by omega)]
theorem zfR_is {t : Int} {W : Int → Int} (ht : zc8 t) (h0 : W (8 * t + t) = 0) : ∀ n : Nat, n ≤ 8 → ∀ i j, zc8 i → zc8 j → zfR t n W (8 * i + j) = if i < n then zvl i t j W else W (8 * i + j)
  | 0, _, i, j, hi, hj => by
    rw [if_neg (by omega)]
    rfl
  | n + 1, hn, i, j, hi, hj => by
    have ih := zfR_is ht h0 n (by omega)
    have hd : zfR t (n + 1) W = zfF n t (zfR t n W (8 * n + t)) 8 (zfR t n W) := rfl
    have hn8 : zc8 (n : Int) := ⟨by omega, by omega⟩
    have e0 : zfR t n W (8 * t + t) = 0 := by
      rw [ih t t ht ht]
      split
      · rw [zvl_p h0, h0]
      · exact h0
    have ep : ∀ j, zc8 j → zfR t n W (8 * t + j) = W (8 * t + j) := fun j hj => by
      rw [ih t j ht hj]
      split
      · rw [zvl_p h0]
      · rfl
    rw [hd, zfF_is hn8 ht e0 8 (by omega) i j hi hj]
    by_cases e : i = n
    · have a1 : zfR t n W (8 * n + t) = W (8 * n + t) := by rw [ih n t hn8 ht, if_neg (by omega)]
      have a2 : zfR t n W (8 * n + j) = W (8 * n + j) := by rw [ih n j hn8 hj, if_neg (by omega)]
      rw [if_pos ⟨e, hj.2⟩, if_pos (by omega), e]
      unfold zvl
      rw [a1, a2, ep j hj]
    · rw [if_neg (fun q => e q.1), ih i j hi hj]
      by_cases e3 : i < n
      · rw [if_pos e3, if_pos (by omega)]
      · rw [if_neg e3, if_neg (by omega)]
def zfI (V : Int → Int) (t : Int) (W : Int → Int) : Prop :=
  (∀ i j, zc8 i → zc8 j → 0 ≤ W (8 * i + j) ∧ W (8 * i + j) ≤ 1000) ∧ (∀ i, zc8 i → W (8 * i + i) = 0) ∧ (∀ u v, zc8 u → zc8 v → 0 < V (8 + 8 * u + v) → W (8 * u + v) ≤ V (8 + 8 * u + v)) ∧
  (∀ i j, zc8 i → zc8 j → j ≠ i → W (8 * i + j) < 1000 → ∃ u, zc8 u ∧ 0 < V (8 + 8 * u + j) ∧ W (8 * i + u) + V (8 + 8 * u + j) ≤ W (8 * i + j)) ∧
  ∀ m i j, 0 ≤ m → m < t → zc8 i → zc8 j → W (8 * i + j) ≤ W (8 * i + m) + W (8 * m + j)
theorem zvl_le1 {f t j : Int} {W : Int → Int} : zvl f t j W ≤ W (8 * f + j) := by
  unfold zvl
  split <;> omega
theorem zvl_le2 {f t j : Int} {W : Int → Int} : zvl f t j W ≤ W (8 * f + t) + W (8 * t + j) := by
  unfold zvl
  split <;> omega
theorem zvl_or {f t j : Int} {W : Int → Int} : zvl f t j W = W (8 * f + j) ∨ zvl f t j W = W (8 * f + t) + W (8 * t + j) := by
  unfold zvl
  split
  · exact Or.inr rfl
  · exact Or.inl rfl
theorem zfI_step {V W : Int → Int} {t : Int} (ht : zc8 t) (h : zfI V t W) : zfI V (t + 1) (zfR t 8 W) := by
  obtain ⟨hb, hz, hw, hp, hm⟩ := h
  have h0 := hz t ht
  have e : ∀ i j, zc8 i → zc8 j → zfR t 8 W (8 * i + j) = zvl i t j W := fun i j hi hj => by
    rw [zfR_is ht h0 8 (by omega) i j hi hj, if_pos (show i < ((8 : Nat) : Int) from hi.2)]
  refine ⟨fun i j hi hj => ?_, fun i hi => ?_, fun u v hu hv h1 => ?_, fun i j hi hj hne hlt => ?_, fun m i j m0 m1 hi hj => ?_⟩
  · rw [e i j hi hj]
    have b1 := hb i j hi hj
    have b2 := hb i t hi ht
    have b3 := hb t j ht hj
    unfold zvl
    split <;> omega
  · rw [e i i hi hi, zvl, hz i hi]
    have b2 := hb i t hi ht
    have b3 := hb t i ht hi
    rw [if_neg (by omega)]
  · rw [e u v hu hv]
    exact Int.le_trans zvl_le1 (hw u v hu hv h1)
  · rw [e i j hi hj] at hlt ⊢
    have b2 := hb i t hi ht
    have b3 := hb t j ht hj
    rcases zvl_or (f := i) (t := t) (j := j) (W := W) with q | q
    · rw [q] at hlt ⊢
      obtain ⟨u, hu, h1, h2⟩ := hp i j hi hj hne hlt
      refine ⟨u, hu, h1, ?_⟩
      rw [e i u hi hu]
      have := zvl_le1 (f := i) (t := t) (j := u) (W := W)
      omega
    · by_cases etj : j = t
      · rw [etj] at q hlt hne ⊢
        rw [q, h0] at hlt ⊢
        obtain ⟨u, hu, h1, h2⟩ := hp i t hi ht hne (by omega)
        refine ⟨u, hu, h1, ?_⟩
        rw [e i u hi hu]
        have := zvl_le1 (f := i) (t := t) (j := u) (W := W)
        omega
      · rw [q] at hlt ⊢
        obtain ⟨u, hu, h1, h2⟩ := hp t j ht hj etj (by omega)
        refine ⟨u, hu, h1, ?_⟩
        rw [e i u hi hu]
        have := zvl_le2 (f := i) (t := t) (j := u) (W := W)
        omega
  · have hmc : zc8 m := ⟨m0, by have := ht.2; omega⟩
    rw [e i j hi hj, e i m hi hmc, e m j hmc hj]
    have b1 := hb i t hi ht
    have b2 := hb t j ht hj
    have b3 := hb t m ht hmc
    have b4 := hb m t hmc ht
    have l1 := zvl_le1 (f := i) (t := t) (j := j) (W := W)
    have l2 := zvl_le2 (f := i) (t := t) (j := j) (W := W)
    by_cases em : m = t
    · rw [em, zvl_c h0, zvl_p h0]
      exact l2
    · have t1 := hm m i j m0 (by omega) hi hj
      have t2 := hm m t j m0 (by omega) ht hj
      have t3 := hm m i t m0 (by omega) hi ht
      rcases zvl_or (f := i) (t := t) (j := m) (W := W) with q | q <;> rcases zvl_or (f := m) (t := t) (j := j) (W := W) with q2 | q2 <;> rw [q, q2] <;> omega
theorem zfA_I {V W : Int → Int} (h : zfI V 0 W) : ∀ n : Nat, n ≤ 8 → zfI V n (zfA n W)
  | 0, _ => h
  | n + 1, hn => by
    have h2 := zfI_step (t := (n : Int)) ⟨by omega, by omega⟩ (zfA_I h n (by omega))
    have e : ((n + 1 : Nat) : Int) = (n : Int) + 1 := by omega
    have hd : zfA (n + 1) W = zfR n 8 (zfA n W) := rfl
    rw [hd, e]
    exact h2
theorem zfI_0 {V W : Int → Int} (hT : ∀ i, 8 ≤ i → i < 72 → 0 ≤ V i ∧ V i ≤ 9) (h : ∀ i j, zc8 i → zc8 j → W (8 * i + j) = if i = j then 0 else if V (8 + (8 * i + j)) = 0 then 1000 else V (8 + (8 * i + j))) : zfI V 0 W := by
  have ev : ∀ i j : Int, V (8 + (8 * i + j)) = V (8 + 8 * i + j) := fun i j => by
    show _ = V (8 + 8 * i + j)
    rw [Int.add_assoc]
  have hb : ∀ i j, zc8 i → zc8 j → 0 ≤ V (8 + 8 * i + j) ∧ V (8 + 8 * i + j) ≤ 9 := fun i j hi hj => hT _ (by omega) (by omega)
  refine ⟨fun i j hi hj => ?_, fun i hi => ?_, fun u v hu hv h1 => ?_, fun i j hi hj hne hlt => ?_, fun m i j m0 m1 => by omega⟩
  · rw [h i j hi hj, ev]
    have := hb i j hi hj
    split
    · omega
    · split <;> omega
  · rw [h i i hi hi, if_pos rfl]
  · rw [h u v hu hv, ev]
    split
    · omega
    · rw [if_neg (by omega)]
      exact Int.le_refl _
  · rw [h i j hi hj, ev, if_neg (fun q => hne q.symm)] at hlt
    have hw : ¬ V (8 + 8 * i + j) = 0 := fun q => by
      rw [if_pos q] at hlt
      omega
    have := hb i j hi hj
    refine ⟨i, hi, by omega, ?_⟩
    rw [h i i hi hi, if_pos rfl, h i j hi hj, ev, if_neg (fun q => hne q.symm), if_neg hw]
    omega
theorem zfA_SP {V W : Int → Int} (h : zfI V 8 W) {a : Int} (ha : zc8 a) : zSP V a (fun j => W (8 * a + j)) := by
  obtain ⟨hb, hz, hw, hp, hm⟩ := h
  refine ⟨hz a ha, fun v v0 v8 => hb a v ha ⟨v0, v8⟩, fun u v u0 u8 v0 v8 h1 => ?_, fun v v0 v8 hne hlt => ?_⟩
  · have h2 := hm u a v u0 u8 ha ⟨v0, v8⟩
    have h3 := hw u v ⟨u0, u8⟩ ⟨v0, v8⟩ h1
    show W (8 * a + v) ≤ W (8 * a + u) + V (8 + 8 * u + v)
    omega
  · obtain ⟨u, hu, h1, h2⟩ := hp a v ha ⟨v0, v8⟩ hne hlt
    exact ⟨u, hu.1, hu.2, h1, h2⟩
theorem zfA_BF {V W : Int → Int} (hT : ∀ i, 8 ≤ i → i < 72 → 0 ≤ V i ∧ V i ≤ 9) (h : ∀ i j, zc8 i → zc8 j → W (8 * i + j) = if i = j then 0 else if V (8 + (8 * i + j)) = 0 then 1000 else V (8 + (8 * i + j))) {a j : Int} (ha : zc8 a) (hj : zc8 j) : zfA 8 W (8 * a + j) = zBF V a j :=
  zBF_is (zfA_SP (zfA_I (zfI_0 hT h) 8 (by omega)) ha) ha j hj.1 hj.2
/-- shortest delays, as such -/
theorem zBF_SP {V : Int → Int} (hT : ∀ i, 8 ≤ i → i < 72 → 0 ≤ V i ∧ V i ≤ 9) {a : Int} (ha : zc8 a) : zSP V a (zBF V a) := by
  have h : zSP V a (fun j => zfA 8 (fun x => if x / 8 = x % 8 then 0 else if V (8 + x) = 0 then 1000 else V (8 + x)) (8 * a + j)) := zfA_SP (zfA_I (zfI_0 hT (fun i j hi hj => by
    have e1 : (8 * i + j) / 8 = i := by omega
    have e2 : (8 * i + j) % 8 = j := by omega
    show (if (8 * i + j) / 8 = (8 * i + j) % 8 then 0 else if V (8 + (8 * i + j)) = 0 then 1000 else V (8 + (8 * i + j))) = _
    rw [e1, e2])) 8 (by omega)) ha
  have e : ∀ v, 0 ≤ v → v < 8 → zfA 8 (fun x => if x / 8 = x % 8 then 0 else if V (8 + x) = 0 then 1000 else V (8 + x)) (8 * a + v) = zBF V a v := fun v v0 v8 => zBF_is h ha v v0 v8
  obtain ⟨h1, h2, h3, h4⟩ := h
  refine ⟨by rw [← e a ha.1 ha.2]; exact h1, fun v v0 v8 => by rw [← e v v0 v8]; exact h2 v v0 v8, fun u v u0 u8 v0 v8 hw => by rw [← e v v0 v8, ← e u u0 u8]; exact h3 u v u0 u8 v0 v8 hw, fun v v0 v8 hne hlt => ?_⟩
  rw [← e v v0 v8] at hlt ⊢
  obtain ⟨u, u0, u8, hw, hu⟩ := h4 v v0 v8 hne hlt
  exact ⟨u, u0, u8, hw, by rw [← e u u0 u8]; exact hu⟩
/-- a way has at most seven tunnels -/
theorem zSP_63 {V : Int → Int} {a : Int} {d : Int → Int} (h : zSP V a d) (hT : ∀ i, 8 ≤ i → i < 72 → 0 ≤ V i ∧ V i ≤ 9) : ∀ (n : Nat) (v : Int), zc8 v → d v ≤ n → d v < 1000 → d v ≤ 9 * zcnt (fun u => d u < d v) 8 := by
  intro n
  induction n using Nat.strongRecOn with
  | _ n ih =>
    intro v hv hn hlt
    have hc := (zcnt_bd (P := fun u => d u < d v) 8).1
    by_cases e : v = a
    · have : d v = 0 := by rw [e]; exact h.1
      omega
    · obtain ⟨u, u0, u8, hw, hu⟩ := h.2.2.2 v hv.1 hv.2 e hlt
      have b1 := (h.2.1 u u0 u8).1
      have h1 := ih (d u).toNat (by omega) u ⟨u0, u8⟩ (by omega) (by omega)
      have h2 : zcnt (fun x => d x < d u) 8 < zcnt (fun x => d x < d v) 8 := zcnt_lt (P := fun x => d x < d u) (Q := fun x => d x < d v) (u := u) (fun q hq => by omega) (Int.lt_irrefl _) (by omega) 8 u0 u8
      have h3 := (h.2.2.1 u v u0 u8 hv.1 hv.2 hw)
      have h4 := hT (8 + 8 * u + v) (by have := hv.1; omega) (by have := hv.2; omega)
      have h5 : V (8 + 8 * u + v) ≤ 9 := h4.2
      omega
theorem zBF_63 {V : Int → Int} (hT : ∀ i, 8 ≤ i → i < 72 → 0 ≤ V i ∧ V i ≤ 9) {a v : Int} (ha : zc8 a) (hv : zc8 v) (hlt : zBF V a v < 1000) : 0 ≤ zBF V a v ∧ zBF V a v ≤ 63 := by
  have h := zBF_SP hT ha
  have b := h.2.1 v hv.1 hv.2
  have h1 := zSP_63 h hT (zBF V a v).toNat v hv (by omega) hlt
  have h2 : zcnt (fun u => zBF V a u < zBF V a v) 8 ≤ 7 := by
    by_cases q : (8 : Int) ≤ zcnt (fun u => zBF V a u < zBF V a v) 8
    · have := zcnt_all (P := fun u => zBF V a u < zBF V a v) 8 q v hv.1 hv.2
      exact absurd this (Int.lt_irrefl _)
    · omega
  omega
/-! by going on from the nearest -/
abbrev zbi (f c : Int) : Int := f / 2 ^ c.toNat % 2
def zNe (r : Int → Int) (f : Int) : Nat → Int × Int
  | 0 => (-1, 1000)
  | n + 1 => if zbi f n = 0 ∧ r n < (zNe r f n).2 then ((n : Int), r n) else zNe r f n
def zCo (V : Int → Int) (c : Int) : Nat → (Int → Int) → (Int → Int) := zfold (fun x r => if ¬ V (8 + 8 * c + x) = 0 ∧ r c + V (8 + 8 * c + x) < r x then zup r x (r c + V (8 + 8 * c + x)) else r)
def zDs (V : Int → Int) (p : (Int → Int) × Int) : (Int → Int) × Int := if (zNe p.1 p.2 8).1 = -1 then p else (zCo V (zNe p.1 p.2 8).1 8 p.1, p.2 + 2 ^ (zNe p.1 p.2 8).1.toNat)
def zDj (V : Int → Int) (a : Int) : Nat → (Int → Int) × Int
  | 0 => (zNr a, 0)
  | n + 1 => zDs V (zDj V a n)
theorem zNe_is {r : Int → Int} {f : Int} : ∀ n : Nat, n ≤ 8 → ((zNe r f n).1 = -1 ∧ (zNe r f n).2 = 1000 ∧ ∀ c : Int, 0 ≤ c → c < n → zbi f c = 0 → 1000 ≤ r c) ∨ (0 ≤ (zNe r f n).1 ∧ (zNe r f n).1 < n ∧ zbi f (zNe r f n).1 = 0 ∧ (zNe r f n).2 = r (zNe r f n).1 ∧ r (zNe r f n).1 < 1000 ∧ ∀ c : Int, 0 ≤ c → c < n → zbi f c = 0 → r (zNe r f n).1 ≤ r c)
  | 0, _ => Or.inl ⟨rfl, rfl, fun c h0 h1 => by omega⟩
  | n + 1, hn => by
    have ih := zNe_is (r := r) (f := f) n (by omega)
    have hd : zNe r f (n + 1) = if zbi f n = 0 ∧ r n < (zNe r f n).2 then ((n : Int), r n) else zNe r f n := rfl
    rw [hd]
    by_cases hc : zbi f n = 0 ∧ r n < (zNe r f n).2
    · rw [if_pos hc]
      refine Or.inr ⟨by show (0 : Int) ≤ n; omega, by show (n : Int) < _; omega, hc.1, rfl, ?_, fun c c0 c1 hb => ?_⟩
      · show r n < 1000
        rcases ih with ⟨i1, i2, -⟩ | ⟨i1, i2, i3, i4, i5, -⟩ <;> omega
      · show r n ≤ r c
        by_cases e : c = n
        · rw [e]; exact Int.le_refl _
        · rcases ih with ⟨i1, i2, i3⟩ | ⟨i1, i2, i3, i4, i5, i6⟩
          · have := i3 c c0 (by omega) hb
            omega
          · have := i6 c c0 (by omega) hb
            omega
    · rw [if_neg hc]
      rcases ih with ⟨i1, i2, i3⟩ | ⟨i1, i2, i3, i4, i5, i6⟩
      · refine Or.inl ⟨i1, i2, fun c c0 c1 hb => ?_⟩
        by_cases e : c = n
        · rw [e] at hb ⊢
          have : ¬ r n < (zNe r f n).2 := fun z => hc ⟨hb, z⟩
          omega
        · exact i3 c c0 (by omega) hb
      · refine Or.inr ⟨i1, by omega, i3, i4, i5, fun c c0 c1 hb => ?_⟩
        by_cases e : c = n
        · rw [e] at hb ⊢
          have : ¬ r n < (zNe r f n).2 := fun z => hc ⟨hb, z⟩
          omega
        · exact i6 c c0 (by omega) hb
theorem zbi_decF : ∀ f : Fin 256, ∀ n : Fin 8, ∀ c : Fin 8, (f.val / 2 ^ n.val) % 2 = 0 → (f.val + 2 ^ n.val) / 2 ^ c.val % 2 = (if c = n then 1 else (f.val / 2 ^ c.val) % 2) ∧ f.val + 2 ^ n.val < 256 := by decide +kernel
theorem zbi_nat (f c : Nat) : zbi (f : Int) (c : Int) = ((f / 2 ^ c % 2 : Nat) : Int) := by
  unfold zbi
  rw [Int.toNat_natCast]
  norm_cast
theorem zbi_add {f n : Int} (hf : 0 ≤ f ∧ f < 256) (hn : zc8 n) (h : zbi f n = 0) : (∀ c, zc8 c → zbi (f + 2 ^ n.toNat) c = if c = n then 1 else zbi f c) ∧ 0 ≤ f + 2 ^ n.toNat ∧ f + 2 ^ n.toNat < 256 := by
  obtain ⟨F, rfl⟩ : ∃ k : Nat, f = k := ⟨f.toNat, by omega⟩
  obtain ⟨m, rfl⟩ : ∃ k : Nat, n = k := ⟨n.toNat, by have := hn.1; omega⟩
  rw [zbi_nat] at h
  have hF : F < 256 := by omega
  have hm : m < 8 := by have := hn.2; omega
  have hz : (F / 2 ^ m) % 2 = 0 := by omega
  have e : (F : Int) + 2 ^ ((m : Int)).toNat = ((F + 2 ^ m : Nat) : Int) := by
    rw [Int.toNat_natCast]
    norm_cast
  rw [e]
  have h2 := zbi_decF ⟨F, hF⟩ ⟨m, hm⟩ ⟨0, by decide⟩ hz
  have h5 : F + 2 ^ m < 256 := h2.2
  refine ⟨fun c hc => ?_, Int.natCast_nonneg _, by generalize F + 2 ^ m = z at h5 ⊢; omega⟩
  obtain ⟨d, rfl⟩ : ∃ k : Nat, c = k := ⟨c.toNat, by have := hc.1; omega⟩
  have hd : d < 8 := by have := hc.2; omega
  have h3 := (zbi_decF ⟨F, hF⟩ ⟨m, hm⟩ ⟨d, hd⟩ hz).1
  rw [zbi_nat, zbi_nat]
  have h4 : (F + 2 ^ m) / 2 ^ d % 2 = if (⟨d, hd⟩ : Fin 8) = ⟨m, hm⟩ then 1 else (F / 2 ^ d) % 2 := h3
  rw [h4]
  by_cases q : d = m
  · subst q
    rw [if_pos rfl, if_pos rfl]
    rfl
  · rw [if_neg (fun z => q (congrArg Fin.val z)), if_neg (by omega)]
theorem zbi_01 (f c : Int) : zbi f c = 0 ∨ zbi f c = 1 := by
  unfold zbi
  omega
theorem zCo_is {V r : Int → Int} {c : Int} (hc : zc8 c) (hw : 0 ≤ V (8 + 8 * c + c)) : ∀ n : Nat, n ≤ 8 → ∀ j, zc8 j → zCo V c n r j = if j < n ∧ ¬ V (8 + 8 * c + j) = 0 ∧ r c + V (8 + 8 * c + j) < r j then r c + V (8 + 8 * c + j) else r j
  | 0, _, j, hj => by
    rw [if_neg (by omega)]
    rfl
  | n + 1, hn, j, hj => by
    have ih := zCo_is (r := r) hc hw n (by omega)
    have hd : zCo V c (n + 1) r = (if ¬ V (8 + 8 * c + n) = 0 ∧ zCo V c n r c + V (8 + 8 * c + n) < zCo V c n r n then zup (zCo V c n r) n (zCo V c n r c + V (8 + 8 * c + n)) else zCo V c n r) := rfl
    have e1 : zCo V c n r c = r c := by
      rw [ih c hc, if_neg (fun q => by omega)]
    have e2 : zCo V c n r n = r n := by
      rw [ih n ⟨by omega, by omega⟩, if_neg (fun q => by omega)]
    rw [hd, e1, e2]
    by_cases q : ¬ V (8 + 8 * c + n) = 0 ∧ r c + V (8 + 8 * c + n) < r n
    · rw [if_pos q]
      by_cases e : j = n
      · rw [e, zup_same, if_pos ⟨by omega, q⟩]
      · rw [zup_ne e, ih j hj]
        by_cases e3 : j < n ∧ ¬ V (8 + 8 * c + j) = 0 ∧ r c + V (8 + 8 * c + j) < r j
        · rw [if_pos e3, if_pos ⟨by omega, e3.2⟩]
        · rw [if_neg e3, if_neg (fun z => e3 ⟨by omega, z.2⟩)]
    · rw [if_neg q, ih j hj]
      by_cases e : j = n
      · rw [e, if_neg (fun z => q z.2), if_neg (fun z => q z.2)]
      · by_cases e3 : j < n ∧ ¬ V (8 + 8 * c + j) = 0 ∧ r c + V (8 + 8 * c + j) < r j
        · rw [if_pos e3, if_pos ⟨by omega, e3.2⟩]
        · rw [if_neg e3, if_neg (fun z => e3 ⟨by omega, z.2⟩)]
def zDI (V : Int → Int) (a k : Int) (p : (Int → Int) × Int) : Prop :=
  (p.1 a = 0 ∧ ∀ v, zc8 v → 0 ≤ p.1 v ∧ p.1 v ≤ 1000) ∧ (0 ≤ p.2 ∧ p.2 < 256) ∧
  (∀ u, zc8 u → zbi p.2 u = 1 → p.1 u < 1000 ∧ ∀ v, zc8 v → 0 < V (8 + 8 * u + v) → p.1 v ≤ p.1 u + V (8 + 8 * u + v)) ∧
  (∀ u v, zc8 u → zc8 v → zbi p.2 u = 1 → zbi p.2 v = 0 → p.1 u ≤ p.1 v) ∧
  (∀ v, zc8 v → v ≠ a → p.1 v < 1000 → ∃ u, zc8 u ∧ zbi p.2 u = 1 ∧ 0 < V (8 + 8 * u + v) ∧ p.1 u + V (8 + 8 * u + v) ≤ p.1 v) ∧
  (k ≤ zcnt (fun c => zbi p.2 c = 1) 8 ∨ ∀ v, zc8 v → zbi p.2 v = 0 → 1000 ≤ p.1 v)
theorem zDI_0 {V : Int → Int} {a : Int} (ha : zc8 a) : zDI V a 0 (zNr a, 0) := by
  have hz : ∀ c : Int, zbi 0 c = 0 := fun c => by
    show 0 / 2 ^ c.toNat % 2 = 0
    rw [Int.zero_ediv]
    rfl
  refine ⟨⟨by show zNr a a = 0; unfold zNr; rw [if_pos rfl], fun v hv => zNr_bd a v⟩, ⟨Int.le_refl 0, by show (0 : Int) < 256; decide⟩, fun u hu h => ?_, fun u v hu hv h => ?_, fun v hv hne hlt => ?_, Or.inl (zcnt_bd _).1⟩
  · have := hz u
    have h2 : zbi 0 u = 1 := h
    omega
  · have := hz u
    have h2 : zbi 0 u = 1 := h
    omega
  · have h2 : zNr a v < 1000 := hlt
    unfold zNr at h2
    rw [if_neg hne] at h2
    omega
theorem zDI_step {V : Int → Int} {a k : Int} {p : (Int → Int) × Int} (hT : ∀ i, 8 ≤ i → i < 72 → 0 ≤ V i ∧ V i ≤ 9) (ha : zc8 a) (h : zDI V a k p) : zDI V a (k + 1) (zDs V p) := by
  obtain ⟨r, f⟩ := p
  obtain ⟨⟨ha0, hb⟩, hf, hu, hle, hp, hk⟩ := h
  replace ha0 : r a = 0 := ha0
  replace hb : ∀ v, zc8 v → 0 ≤ r v ∧ r v ≤ 1000 := hb
  replace hf : 0 ≤ f ∧ f < 256 := hf
  replace hu : ∀ u, zc8 u → zbi f u = 1 → r u < 1000 ∧ ∀ v, zc8 v → 0 < V (8 + 8 * u + v) → r v ≤ r u + V (8 + 8 * u + v) := hu
  replace hle : ∀ u v, zc8 u → zc8 v → zbi f u = 1 → zbi f v = 0 → r u ≤ r v := hle
  replace hp : ∀ v, zc8 v → v ≠ a → r v < 1000 → ∃ u, zc8 u ∧ zbi f u = 1 ∧ 0 < V (8 + 8 * u + v) ∧ r u + V (8 + 8 * u + v) ≤ r v := hp
  replace hk : k ≤ zcnt (fun c => zbi f c = 1) 8 ∨ ∀ v, zc8 v → zbi f v = 0 → 1000 ≤ r v := hk
  have hw : ∀ u v, zc8 u → zc8 v → 0 ≤ V (8 + 8 * u + v) := fun u v hu hv => (hT _ (by have := hu.1; have := hv.1; omega) (by have := hu.2; have := hv.2; omega)).1
  have hn := zNe_is (r := r) (f := f) 8 (by omega)
  unfold zDs
  rcases hn with ⟨n1, n2, n3⟩ | ⟨n0, n1, n2, n3, n4, n5⟩
  · rw [if_pos n1]
    exact ⟨⟨ha0, hb⟩, hf, hu, hle, hp, Or.inr fun v hv hz => n3 v hv.1 hv.2 hz⟩
  · rw [if_neg (by show ¬ (zNe r f 8).1 = -1; omega)]
    show zDI V a (k + 1) (zCo V (zNe r f 8).1 8 r, f + 2 ^ (zNe r f 8).1.toNat)
    generalize (zNe r f 8).1 = n at n0 n1 n2 n3 n4 n5
    have hn8 : zc8 n := ⟨n0, n1⟩
    obtain ⟨z1, z2⟩ := zbi_add hf hn8 n2
    have hco : ∀ j, zc8 j → zCo V n 8 r j = if ¬ V (8 + 8 * n + j) = 0 ∧ r n + V (8 + 8 * n + j) < r j then r n + V (8 + 8 * n + j) else r j := fun j hj => by
      rw [zCo_is hn8 (hw n n hn8 hn8) 8 (by omega) j hj]
      by_cases q : ¬ V (8 + 8 * n + j) = 0 ∧ r n + V (8 + 8 * n + j) < r j
      · rw [if_pos ⟨hj.2, q⟩, if_pos q]
      · rw [if_neg (fun z => q z.2), if_neg q]
    have hlec : ∀ j, zc8 j → zCo V n 8 r j ≤ r j := fun j hj => by
      rw [hco j hj]
      split <;> omega
    have hgec : ∀ j, zc8 j → r n ≤ r j → r n ≤ zCo V n 8 r j := fun j hj q => by
      rw [hco j hj]
      have := hw n j hn8 hj
      split <;> omega
    have hS : ∀ u, zc8 u → (zbi f u = 1 ∨ u = n) → zCo V n 8 r u = r u := fun u h8 q => by
      rw [hco u h8, if_neg]
      rintro ⟨q1, q2⟩
      have h1 := hw n u hn8 h8
      rcases q with q | q
      · have := hle u n h8 hn8 q n2
        omega
      · subst q
        omega
    have hS' : ∀ u, zc8 u → zbi (f + 2 ^ n.toNat) u = 1 → zbi f u = 1 ∨ u = n := fun u h8 q => by
      rw [z1 u h8] at q
      by_cases e : u = n
      · exact Or.inr e
      · rw [if_neg e] at q
        exact Or.inl q
    have hN' : ∀ u, zc8 u → zbi (f + 2 ^ n.toNat) u = 0 → zbi f u = 0 ∧ u ≠ n := fun u h8 q => by
      rw [z1 u h8] at q
      by_cases e : u = n
      · rw [if_pos e] at q
        cases q
      · rw [if_neg e] at q
        exact ⟨q, e⟩
    refine ⟨⟨?_, fun v hv => ?_⟩, z2, fun u h8 q => ?_, fun u v h8 hv q q2 => ?_, fun v hv hne hlt => ?_, ?_⟩
    · have h1 := hlec a ha
      have h2 : 0 ≤ zCo V n 8 r a := by
        rw [hco a ha]
        have := hw n a hn8 ha
        have := (hb n hn8).1
        split <;> omega
      show zCo V n 8 r a = 0
      omega
    · show 0 ≤ zCo V n 8 r v ∧ zCo V n 8 r v ≤ 1000
      have h1 := hlec v hv
      have h3 := hb v hv
      refine ⟨?_, by omega⟩
      rw [hco v hv]
      have := hw n v hn8 hv
      have := (hb n hn8).1
      split <;> omega
    · have q1 := hS' u h8 q
      show zCo V n 8 r u < 1000 ∧ ∀ v, zc8 v → 0 < V (8 + 8 * u + v) → zCo V n 8 r v ≤ zCo V n 8 r u + V (8 + 8 * u + v)
      rw [hS u h8 q1]
      rcases q1 with q1 | q1
      · exact ⟨(hu u h8 q1).1, fun v hv h1 => Int.le_trans (hlec v hv) ((hu u h8 q1).2 v hv h1)⟩
      · rw [q1]
        refine ⟨n4, fun v hv h1 => ?_⟩
        rw [hco v hv]
        split
        · exact Int.le_refl _
        · rename_i z
          have : ¬ r n + V (8 + 8 * n + v) < r v := fun z2 => z ⟨by omega, z2⟩
          omega
    · have q1 := hS' u h8 q
      obtain ⟨q3, q4⟩ := hN' v hv q2
      show zCo V n 8 r u ≤ zCo V n 8 r v
      rw [hS u h8 q1]
      have hnv := n5 v hv.1 hv.2 q3
      have h5 := hgec v hv hnv
      rcases q1 with q1 | q1
      · have := hle u n h8 hn8 q1 n2
        omega
      · rw [q1]; exact h5
    · have hlt' : zCo V n 8 r v < 1000 := hlt
      show ∃ u, zc8 u ∧ zbi (f + 2 ^ n.toNat) u = 1 ∧ 0 < V (8 + 8 * u + v) ∧ zCo V n 8 r u + V (8 + 8 * u + v) ≤ zCo V n 8 r v
      by_cases q : ¬ V (8 + 8 * n + v) = 0 ∧ r n + V (8 + 8 * n + v) < r v
      · refine ⟨n, hn8, by rw [z1 n hn8, if_pos rfl], by have := hw n v hn8 hv; omega, ?_⟩
        rw [hS n hn8 (Or.inr rfl), hco v hv, if_pos q]
        exact Int.le_refl _
      · have ev : zCo V n 8 r v = r v := by rw [hco v hv, if_neg q]
        rw [ev] at hlt' ⊢
        obtain ⟨u, h8, q1, h1, h2⟩ := hp v hv hne hlt'
        refine ⟨u, h8, ?_, h1, by rw [hS u h8 (Or.inl q1)]; exact h2⟩
        rw [z1 u h8]
        split
        · rfl
        · exact q1
    · show k + 1 ≤ zcnt (fun c => zbi (f + 2 ^ n.toNat) c = 1) 8 ∨ ∀ v, zc8 v → zbi (f + 2 ^ n.toNat) v = 0 → 1000 ≤ zCo V n 8 r v
      rcases hk with hk | hk
      · left
        have h1 : ∀ m : Nat, m ≤ 8 → zcnt (fun c => zbi f c = 1) m ≤ zcnt (fun c => zbi (f + 2 ^ n.toNat) c = 1) m ∧ (n < m → zcnt (fun c => zbi f c = 1) m + 1 ≤ zcnt (fun c => zbi (f + 2 ^ n.toNat) c = 1) m) := by
          intro m
          induction m with
          | zero => exact fun _ => ⟨Int.le_refl 0, fun z => by omega⟩
          | succ m ih =>
            intro hm
            obtain ⟨i1, i2⟩ := ih (by omega)
            have d1 : zcnt (fun c => zbi f c = 1) (m + 1) = zcnt (fun c => zbi f c = 1) m + zb (zbi f m = 1) := rfl
            have d2 : zcnt (fun c => zbi (f + 2 ^ n.toNat) c = 1) (m + 1) = zcnt (fun c => zbi (f + 2 ^ n.toNat) c = 1) m + zb (zbi (f + 2 ^ n.toNat) m = 1) := rfl
            have e := z1 m ⟨by omega, by omega⟩
            by_cases q : (m : Int) = n
            · rw [if_pos q] at e
              have e2 : zb (zbi (f + 2 ^ n.toNat) m = 1) = 1 := zb_t e
              have e3 : zb (zbi f m = 1) = 0 := zb_f (by rw [q]; omega)
              exact ⟨by omega, fun _ => by omega⟩
            · rw [if_neg q] at e
              have e2 : zb (zbi (f + 2 ^ n.toNat) m = 1) = zb (zbi f m = 1) := by rw [e]
              exact ⟨by omega, fun z => by have := i2 (by omega); omega⟩
        have := (h1 8 (by omega)).2 n1
        omega
      · have := hk n hn8 n2
        omega
theorem zDj_I {V : Int → Int} {a : Int} (hT : ∀ i, 8 ≤ i → i < 72 → 0 ≤ V i ∧ V i ≤ 9) (ha : zc8 a) : ∀ n : Nat, zDI V a n (zDj V a n)
  | 0 => zDI_0 ha
  | n + 1 => zDI_step hT ha (zDj_I hT ha n)
theorem zDj_BF {V : Int → Int} {a v : Int} (hT : ∀ i, 8 ≤ i → i < 72 → 0 ≤ V i ∧ V i ≤ 9) (ha : zc8 a) (hv : zc8 v) : (zDj V a 8).1 v = zBF V a v := by
  obtain ⟨⟨ha0, hb⟩, hf, hu, hle, hp, hk⟩ := zDj_I hT ha 8
  have hor : ∀ u, zc8 u → zbi (zDj V a 8).2 u = 1 ∨ 1000 ≤ (zDj V a 8).1 u := fun u h8 => by
    rcases hk with hk | hk
    · exact Or.inl (zcnt_all (P := fun c => zbi (zDj V a 8).2 c = 1) 8 hk u h8.1 h8.2)
    · rcases zbi_01 (zDj V a 8).2 u with q | q
      · exact Or.inr (hk u h8 q)
      · exact Or.inl q
  refine zBF_is (D := (zDj V a 8).1) ⟨ha0, fun w w0 w8 => hb w ⟨w0, w8⟩, fun u w u0 u8 w0 w8 hw => ?_, fun w w0 w8 hne hlt => ?_⟩ ha v hv.1 hv.2
  · rcases hor u ⟨u0, u8⟩ with q | q
    · exact (hu u ⟨u0, u8⟩ q).2 w ⟨w0, w8⟩ hw
    · have := (hb w ⟨w0, w8⟩).2
      omega
  · obtain ⟨u, h8, q1, h1, h2⟩ := hp w ⟨w0, w8⟩ hne hlt
    exact ⟨u, h8.1, h8.2, h1, h2⟩
