/-! what a tick does to the model's row -/
def zbt (n b : Int) : Int := if b < 4 then n / 2 ^ (3 - b).toNat % 2 else (n % 2 + n / 2 % 2 + n / 4 % 2 + n / 8) % 2
theorem zbt_01 (n b : Int) : zbt n b = 0 ∨ zbt n b = 1 := by
  unfold zbt
  split <;> omega
/-- the first place below n of which P holds, or -1 -/
def zfst (P : Int → Prop) [DecidablePred P] : Nat → Int
  | 0 => -1
  | n + 1 => if 0 ≤ zfst P n then zfst P n else if P n then n else -1
def zall (P : Int → Prop) [DecidablePred P] : Nat → Bool
  | 0 => true
  | n + 1 => zall P n && decide (P n)
theorem zall_iff {P : Int → Prop} [DecidablePred P] : ∀ {n : Nat}, zall P n = true ↔ ∀ q : Int, 0 ≤ q → q < n → P q
  | 0 => by
    constructor
    · intro _ q h0 h1
      omega
    · intro _
      rfl
  | n + 1 => by
    have hd : zall P (n + 1) = (zall P n && decide (P n)) := rfl
    rw [hd, Bool.and_eq_true, zall_iff, decide_eq_true_eq]
    constructor
    · intro h q h0 h1
      by_cases hq : q = n
      · rw [hq]; exact h.2
      · exact h.1 q h0 (by omega)
    · intro h
      exact ⟨fun q h0 h1 => h q h0 (by omega), h n (by omega) (by omega)⟩
theorem zany_iff {P : Int → Prop} [DecidablePred P] : ∀ {n : Nat}, zany P n = true ↔ ∃ q : Int, 0 ≤ q ∧ q < n ∧ P q
  | 0 => by
    constructor
    · intro h
      cases h
    · rintro ⟨q, h0, h1, -⟩
      omega
  | n + 1 => by
    have hd : zany P (n + 1) = (zany P n || decide (P n)) := rfl
    rw [hd, Bool.or_eq_true, zany_iff, decide_eq_true_eq]
    constructor
    · rintro (⟨q, h0, h1, h2⟩ | h)
      · exact ⟨q, h0, by omega, h2⟩
      · exact ⟨n, by omega, by omega, h⟩
    · rintro ⟨q, h0, h1, h2⟩
      by_cases hq : q = n
      · right; rw [← hq]; exact h2
      · exact Or.inl ⟨q, h0, by omega, h2⟩
/-- v is the first place in [lo, n) of which P holds, or -1 -/
def zF1 (P : Int → Prop) (lo n v : Int) : Prop := (v = -1 ∧ ∀ q, lo ≤ q → q < n → ¬ P q) ∨ (lo ≤ v ∧ v < n ∧ P v ∧ ∀ q, lo ≤ q → q < v → ¬ P q)
theorem zfst_F1 {P : Int → Prop} [DecidablePred P] : ∀ n : Nat, zF1 P 0 n (zfst P n)
  | 0 => Or.inl ⟨rfl, fun q h0 h1 => by omega⟩
  | n + 1 => by
    have ih := zfst_F1 (P := P) n
    have hd : zfst P (n + 1) = if 0 ≤ zfst P n then zfst P n else if P n then (n : Int) else -1 := rfl
    rw [hd]
    rcases ih with ⟨e, h⟩ | ⟨h0, h1, h2, h3⟩
    · rw [if_neg (by omega)]
      by_cases hp : P n
      · rw [if_pos hp]
        exact Or.inr ⟨by omega, by omega, hp, fun q a b => h q a (by omega)⟩
      · rw [if_neg hp]
        refine Or.inl ⟨rfl, fun q a b => ?_⟩
        by_cases hq : q = n
        · rw [hq]; exact hp
        · exact h q a (by omega)
    · rw [if_pos h0]
      exact Or.inr ⟨h0, by omega, h2, h3⟩
theorem zF1_one {P : Int → Prop} {lo n v w : Int} (h : zF1 P lo n v) (h' : zF1 P lo n w) (hl : 0 ≤ lo) : v = w := by
  rcases h with ⟨e, h⟩ | ⟨h0, h1, h2, h3⟩ <;> rcases h' with ⟨e', h'⟩ | ⟨g0, g1, g2, g3⟩
  · omega
  · exact absurd g2 (h w g0 g1)
  · exact absurd h2 (h' v h0 h1)
  · rcases Int.lt_trichotomy v w with q | q | q
    · exact absurd h2 (g3 v h0 q)
    · exact q
    · exact absurd g2 (h3 w g0 q)
/-- a walk down from n to lo: the first P, and whether there is no D -/
def zDn (P D : Int → Prop) (lo n u2 u3 : Int) : Prop := zF1 P lo n u2 ∧ (u3 = 0 ∨ u3 = 1) ∧ (u3 = 1 ↔ ∀ q, lo ≤ q → q < n → ¬ D q)
theorem zDn_0 {P D : Int → Prop} {n : Int} : zDn P D n n (-1) 1 := ⟨Or.inl ⟨rfl, fun q h0 h1 => by omega⟩, Or.inr rfl, fun _ q h0 h1 => by omega, fun _ => rfl⟩
theorem zDn_step {P D : Int → Prop} {lo lo' n u2 u3 w2 w3 : Int} (h : zDn P D lo n u2 u3) (hn : lo ≤ n) (hl : lo' = lo - 1) (h2 : (P lo' ∧ w2 = lo') ∨ (¬ P lo' ∧ w2 = u2)) (h3 : (D lo' ∧ w3 = 0) ∨ (¬ D lo' ∧ w3 = u3)) : zDn P D lo' n w2 w3 := by
  obtain ⟨a, b, c⟩ := h
  refine ⟨?_, ?_, ?_⟩
  · rcases h2 with ⟨hp, rfl⟩ | ⟨hp, rfl⟩
    · exact Or.inr ⟨by omega, by omega, hp, fun q q0 q1 => by omega⟩
    · rcases a with ⟨e, a⟩ | ⟨a0, a1, a2, a3⟩
      · refine Or.inl ⟨e, fun q q0 q1 => ?_⟩
        by_cases hq : q = lo'
        · rw [hq]; exact hp
        · exact a q (by omega) q1
      · refine Or.inr ⟨by omega, a1, a2, fun q q0 q1 => ?_⟩
        by_cases hq : q = lo'
        · rw [hq]; exact hp
        · exact a3 q (by omega) q1
  · rcases h3 with ⟨-, rfl⟩ | ⟨-, rfl⟩
    · exact Or.inl rfl
    · exact b
  · rcases h3 with ⟨hd, rfl⟩ | ⟨hd, rfl⟩
    · exact ⟨fun z => by omega, fun z => absurd hd (z lo' (by omega) (by omega))⟩
    · rw [c]
      constructor
      · intro z q q0 q1
        by_cases hq : q = lo'
        · rw [hq]; exact hd
        · exact z q (by omega) q1
      · intro z q q0 q1
        exact z q (by omega) q1
theorem zDn_end {P D : Int → Prop} [DecidablePred P] [DecidablePred D] {n u2 u3 : Int} (h : zDn P D 0 n u2 u3) (hn : 0 ≤ n) : u2 = zfst P n.toNat ∧ (u3 = 0 ∨ u3 = 1) ∧ (u3 = 1 ↔ ¬ zany D n.toNat = true) := by
  have e : ((n.toNat : Nat) : Int) = n := Int.toNat_of_nonneg hn
  have h1 := zfst_F1 (P := P) n.toNat
  rw [e] at h1
  refine ⟨zF1_one h.1 h1 (Int.le_refl 0), h.2.1, ?_⟩
  rw [h.2.2, zany_iff, e]
  constructor
  · rintro z ⟨q, q0, q1, q2⟩
    exact z q q0 q1 q2
  · intro z q q0 q1 q2
    exact z ⟨q, q0, q1, q2⟩
/-- the model's row keeps its bounds: t is greater than all that was counted -/
def zIV (t : Int) (V : Int → Int) : Prop :=
  (0 ≤ V 0 ∧ V 0 ≤ 8) ∧ (0 ≤ V 1 ∧ V 1 ≤ 6) ∧ (0 ≤ V 2 ∧ V 2 ≤ 8) ∧ (∀ i, 3 ≤ i → i < 8 → 0 ≤ V i ∧ V i ≤ t) ∧ (∀ i, 8 ≤ i → i < 72 → 0 ≤ V i ∧ V i ≤ 9) ∧
  (∀ h, 0 ≤ h → h < V 1 → (0 ≤ V (72 + 4 * h + 0) ∧ V (72 + 4 * h + 0) < V 0) ∧ (V (72 + 4 * h + 1) = 0 ∨ V (72 + 4 * h + 1) = 1) ∧ (0 ≤ V (72 + 4 * h + 2) ∧ V (72 + 4 * h + 2) ≤ t) ∧ (0 ≤ V (72 + 4 * h + 3) ∧ V (72 + 4 * h + 3) ≤ 16)) ∧
  (∀ p, 0 ≤ p → p < V 2 → (0 ≤ V (96 + 47 * p + 0) ∧ V (96 + 47 * p + 0) < V 3) ∧ (0 ≤ V (96 + 47 * p + 1) ∧ V (96 + 47 * p + 1) < V 1) ∧ (0 ≤ V (96 + 47 * p + 2) ∧ V (96 + 47 * p + 2) < V 1) ∧ (0 ≤ V (96 + 47 * p + 3) ∧ V (96 + 47 * p + 3) < 16) ∧ (V (96 + 47 * p + 4) = 119 ∨ V (96 + 47 * p + 4) = 100 ∨ V (96 + 47 * p + 4) = 114 ∨ V (96 + 47 * p + 4) = 108) ∧ (0 ≤ V (96 + 47 * p + 5) ∧ V (96 + 47 * p + 5) ≤ 3) ∧ (V (96 + 47 * p + 4) = 119 ∨ V (96 + 47 * p + 4) = 100 → V (96 + 47 * p + 5) ≤ 2) ∧ (0 ≤ V (96 + 47 * p + 6) ∧ V (96 + 47 * p + 6) ≤ 5) ∧ ∀ q, 7 ≤ q → q < 47 → 0 ≤ V (96 + 47 * p + q) ∧ V (96 + 47 * p + q) ≤ t + 1000) ∧
  (∀ i, 472 ≤ i → i < 1496 → 0 ≤ V i ∧ V i ≤ t)
theorem zIV_mono {t t' : Int} {V : Int → Int} (h : zIV t V) (ht : t ≤ t') : zIV t' V := by
  obtain ⟨a0, a1, a2, a3, aT, aH, aM, aR⟩ := h
  refine ⟨a0, a1, a2, fun i h0 h1 => ?_, aT, fun q h0 h1 => ?_, fun p h0 h1 => ?_, fun i h0 h1 => ?_⟩
  · have := a3 i h0 h1
    omega
  · obtain ⟨b1, b2, b3, b4⟩ := aH q h0 h1
    exact ⟨b1, b2, by omega, b4⟩
  · obtain ⟨b1, b2, b3, b4, b5, b6, b7, b8, b9⟩ := aM p h0 h1
    exact ⟨b1, b2, b3, b4, b5, b6, b7, b8, fun q q0 q1 => by have := b9 q q0 q1; omega⟩
  · have := aR i h0 h1
    omega
theorem zIV_cnt {t w v : Int} {V : Int → Int} (hI : zIV t V) (hi : 4 ≤ w ∧ w < 8) (hv : 0 ≤ v ∧ v ≤ t) : zIV t (zup V (w) v) := by
  obtain ⟨a0, a1, a2, a3, aT, aH, aM, aR⟩ := hI
  have e : ∀ j, j ≠ w → zup V (w) v j = V j := fun j hj => zup_ne hj
  have s : ∀ j, j = w → zup V (w) v j = v := fun j hj => zup_at hj
  refine ⟨?_, ?_, ?_, fun i h0 h1 => ?_, fun i h0 h1 => ?_, fun q h0 h1 => ?_, fun p' h0 h1 => ?_, fun i h0 h1 => ?_⟩
  · rw [e 0 (by omega)]; exact a0
  · rw [e 1 (by omega)]; exact a1
  · rw [e 2 (by omega)]; exact a2
  · have := a3 i h0 h1
    by_cases hi : i = w
    · rw [s i hi]; omega
    · rw [e i hi]; exact this
  · rw [e i (by omega)]; exact aT i h0 h1
  · rw [e 1 (by omega)] at h1
    obtain ⟨b1, b2, b3, b4⟩ := aH q h0 h1
    rw [e 0 (by omega)]
    unfold zup
    refine ⟨?_, ?_, ?_, ?_⟩ <;> (split <;> first | assumption | omega)
  · rw [e 2 (by omega)] at h1
    obtain ⟨b1, b2, b3, b4, b5, b6, b7, b8, b9⟩ := aM p' h0 h1
    rw [e 1 (by omega), e 3 (by omega)]
    refine ⟨?_, ?_, ?_, ?_, ?_, ?_, ?_, ?_, fun q q0 q1 => ?_⟩
    · unfold zup; split <;> first | assumption | omega
    · unfold zup; split <;> first | assumption | omega
    · unfold zup; split <;> first | assumption | omega
    · unfold zup; split <;> first | assumption | omega
    · unfold zup; split <;> first | assumption | omega
    · unfold zup; split <;> first | assumption | omega
    · unfold zup; split <;> split <;> first | assumption | omega
    · unfold zup; split <;> first | assumption | omega
    · have := b9 q q0 q1
      unfold zup; split <;> first | assumption | omega
  · have := aR i h0 h1
    by_cases hi : i = w
    · rw [s i hi]; omega
    · rw [e i hi]; exact this
theorem zIV_lis {t z v : Int} {V : Int → Int} (hI : zIV t V) (hh : 0 ≤ z ∧ z < 6) (hv : v = 0 ∨ v = 1) : zIV t (zup V (72 + 4 * z + 1) v) := by
  obtain ⟨a0, a1, a2, a3, aT, aH, aM, aR⟩ := hI
  have e : ∀ j, j ≠ 72 + 4 * z + 1 → zup V (72 + 4 * z + 1) v j = V j := fun j hj => zup_ne hj
  have s : ∀ j, j = 72 + 4 * z + 1 → zup V (72 + 4 * z + 1) v j = v := fun j hj => zup_at hj
  refine ⟨?_, ?_, ?_, fun i h0 h1 => ?_, fun i h0 h1 => ?_, fun q h0 h1 => ?_, fun p' h0 h1 => ?_, fun i h0 h1 => ?_⟩
  · rw [e 0 (by omega)]; exact a0
  · rw [e 1 (by omega)]; exact a1
  · rw [e 2 (by omega)]; exact a2
  · have := a3 i h0 h1
    by_cases hi : i = 72 + 4 * z + 1
    · rw [s i hi]; omega
    · rw [e i hi]; exact this
  · rw [e i (by omega)]; exact aT i h0 h1
  · rw [e 1 (by omega)] at h1
    obtain ⟨b1, b2, b3, b4⟩ := aH q h0 h1
    rw [e 0 (by omega)]
    unfold zup
    refine ⟨?_, ?_, ?_, ?_⟩ <;> (split <;> first | assumption | omega)
  · rw [e 2 (by omega)] at h1
    obtain ⟨b1, b2, b3, b4, b5, b6, b7, b8, b9⟩ := aM p' h0 h1
    rw [e 1 (by omega), e 3 (by omega)]
    refine ⟨?_, ?_, ?_, ?_, ?_, ?_, ?_, ?_, fun q q0 q1 => ?_⟩
    · unfold zup; split <;> first | assumption | omega
    · unfold zup; split <;> first | assumption | omega
    · unfold zup; split <;> first | assumption | omega
    · unfold zup; split <;> first | assumption | omega
    · unfold zup; split <;> first | assumption | omega
    · unfold zup; split <;> first | assumption | omega
    · unfold zup; split <;> split <;> first | assumption | omega
    · unfold zup; split <;> first | assumption | omega
    · have := b9 q q0 q1
      unfold zup; split <;> first | assumption | omega
  · have := aR i h0 h1
    by_cases hi : i = 72 + 4 * z + 1
    · rw [s i hi]; omega
    · rw [e i hi]; exact this
theorem zIV_rec {t z v : Int} {V : Int → Int} (hI : zIV t V) (hh : 0 ≤ z ∧ z < 6) (hv : 0 ≤ v ∧ v ≤ t) : zIV t (zup V (72 + 4 * z + 2) v) := by
  obtain ⟨a0, a1, a2, a3, aT, aH, aM, aR⟩ := hI
  have e : ∀ j, j ≠ 72 + 4 * z + 2 → zup V (72 + 4 * z + 2) v j = V j := fun j hj => zup_ne hj
  have s : ∀ j, j = 72 + 4 * z + 2 → zup V (72 + 4 * z + 2) v j = v := fun j hj => zup_at hj
  refine ⟨?_, ?_, ?_, fun i h0 h1 => ?_, fun i h0 h1 => ?_, fun q h0 h1 => ?_, fun p' h0 h1 => ?_, fun i h0 h1 => ?_⟩
  · rw [e 0 (by omega)]; exact a0
  · rw [e 1 (by omega)]; exact a1
  · rw [e 2 (by omega)]; exact a2
  · have := a3 i h0 h1
    by_cases hi : i = 72 + 4 * z + 2
    · rw [s i hi]; omega
    · rw [e i hi]; exact this
  · rw [e i (by omega)]; exact aT i h0 h1
  · rw [e 1 (by omega)] at h1
    obtain ⟨b1, b2, b3, b4⟩ := aH q h0 h1
    rw [e 0 (by omega)]
    unfold zup
    refine ⟨?_, ?_, ?_, ?_⟩ <;> (split <;> first | assumption | omega)
  · rw [e 2 (by omega)] at h1
    obtain ⟨b1, b2, b3, b4, b5, b6, b7, b8, b9⟩ := aM p' h0 h1
    rw [e 1 (by omega), e 3 (by omega)]
    refine ⟨?_, ?_, ?_, ?_, ?_, ?_, ?_, ?_, fun q q0 q1 => ?_⟩
    · unfold zup; split <;> first | assumption | omega
    · unfold zup; split <;> first | assumption | omega
    · unfold zup; split <;> first | assumption | omega
    · unfold zup; split <;> first | assumption | omega
    · unfold zup; split <;> first | assumption | omega
    · unfold zup; split <;> first | assumption | omega
    · unfold zup; split <;> split <;> first | assumption | omega
    · unfold zup; split <;> first | assumption | omega
    · have := b9 q q0 q1
      unfold zup; split <;> first | assumption | omega
  · have := aR i h0 h1
    by_cases hi : i = 72 + 4 * z + 2
    · rw [s i hi]; omega
    · rw [e i hi]; exact this
theorem zIV_lat {t z v : Int} {V : Int → Int} (hI : zIV t V) (hh : 0 ≤ z ∧ z < 6) (hv : 0 ≤ v ∧ v ≤ 16) : zIV t (zup V (72 + 4 * z + 3) v) := by
  obtain ⟨a0, a1, a2, a3, aT, aH, aM, aR⟩ := hI
  have e : ∀ j, j ≠ 72 + 4 * z + 3 → zup V (72 + 4 * z + 3) v j = V j := fun j hj => zup_ne hj
  have s : ∀ j, j = 72 + 4 * z + 3 → zup V (72 + 4 * z + 3) v j = v := fun j hj => zup_at hj
  refine ⟨?_, ?_, ?_, fun i h0 h1 => ?_, fun i h0 h1 => ?_, fun q h0 h1 => ?_, fun p' h0 h1 => ?_, fun i h0 h1 => ?_⟩
  · rw [e 0 (by omega)]; exact a0
  · rw [e 1 (by omega)]; exact a1
  · rw [e 2 (by omega)]; exact a2
  · have := a3 i h0 h1
    by_cases hi : i = 72 + 4 * z + 3
    · rw [s i hi]; omega
    · rw [e i hi]; exact this
  · rw [e i (by omega)]; exact aT i h0 h1
  · rw [e 1 (by omega)] at h1
    obtain ⟨b1, b2, b3, b4⟩ := aH q h0 h1
    rw [e 0 (by omega)]
    unfold zup
    refine ⟨?_, ?_, ?_, ?_⟩ <;> (split <;> first | assumption | omega)
  · rw [e 2 (by omega)] at h1
    obtain ⟨b1, b2, b3, b4, b5, b6, b7, b8, b9⟩ := aM p' h0 h1
    rw [e 1 (by omega), e 3 (by omega)]
    refine ⟨?_, ?_, ?_, ?_, ?_, ?_, ?_, ?_, fun q q0 q1 => ?_⟩
    · unfold zup; split <;> first | assumption | omega
    · unfold zup; split <;> first | assumption | omega
    · unfold zup; split <;> first | assumption | omega
    · unfold zup; split <;> first | assumption | omega
    · unfold zup; split <;> first | assumption | omega
    · unfold zup; split <;> first | assumption | omega
    · unfold zup; split <;> split <;> first | assumption | omega
    · unfold zup; split <;> first | assumption | omega
    · have := b9 q q0 q1
      unfold zup; split <;> first | assumption | omega
  · have := aR i h0 h1
    by_cases hi : i = 72 + 4 * z + 3
    · rw [s i hi]; omega
    · rw [e i hi]; exact this
theorem zIV_sta {t p v : Int} {V : Int → Int} (hI : zIV t V) (hp : 0 ≤ p ∧ p < 8) (hv : (v = 119 ∨ v = 100 → V (96 + 47 * p + 5) ≤ 2) ∧ (v = 119 ∨ v = 100 ∨ v = 114 ∨ v = 108)) : zIV t (zup V (96 + 47 * p + 4) v) := by
  obtain ⟨a0, a1, a2, a3, aT, aH, aM, aR⟩ := hI
  have e : ∀ j, j ≠ 96 + 47 * p + 4 → zup V (96 + 47 * p + 4) v j = V j := fun j hj => zup_ne hj
  have s : ∀ j, j = 96 + 47 * p + 4 → zup V (96 + 47 * p + 4) v j = v := fun j hj => zup_at hj
  refine ⟨?_, ?_, ?_, fun i h0 h1 => ?_, fun i h0 h1 => ?_, fun q h0 h1 => ?_, fun p' h0 h1 => ?_, fun i h0 h1 => ?_⟩
  · rw [e 0 (by omega)]; exact a0
  · rw [e 1 (by omega)]; exact a1
  · rw [e 2 (by omega)]; exact a2
  · have := a3 i h0 h1
    by_cases hi : i = 96 + 47 * p + 4
    · rw [s i hi]; omega
    · rw [e i hi]; exact this
  · rw [e i (by omega)]; exact aT i h0 h1
  · rw [e 1 (by omega)] at h1
    obtain ⟨b1, b2, b3, b4⟩ := aH q h0 h1
    rw [e 0 (by omega)]
    unfold zup
    refine ⟨?_, ?_, ?_, ?_⟩ <;> (split <;> first | assumption | omega)
  · rw [e 2 (by omega)] at h1
    obtain ⟨b1, b2, b3, b4, b5, b6, b7, b8, b9⟩ := aM p' h0 h1
    rw [e 1 (by omega), e 3 (by omega)]
    refine ⟨?_, ?_, ?_, ?_, ?_, ?_, ?_, ?_, fun q q0 q1 => ?_⟩
    · unfold zup; split <;> first | assumption | omega
    · unfold zup; split <;> first | assumption | omega
    · unfold zup; split <;> first | assumption | omega
    · unfold zup; split <;> first | assumption | omega
    · unfold zup; split <;> first | assumption | omega
    · unfold zup; split <;> first | assumption | omega
    · rcases Decidable.em (p' = p) with hq | hq
      · subst hq; unfold zup; split <;> (try split) <;> first | assumption | omega
      · unfold zup; split <;> (try split) <;> first | assumption | omega
    · unfold zup; split <;> first | assumption | omega
    · have := b9 q q0 q1
      unfold zup; split <;> first | assumption | omega
  · have := aR i h0 h1
    by_cases hi : i = 96 + 47 * p + 4
    · rw [s i hi]; omega
    · rw [e i hi]; exact this
theorem zIV_tim {t p v : Int} {V : Int → Int} (hI : zIV t V) (hp : 0 ≤ p ∧ p < 8) (hv : (0 ≤ v ∧ v ≤ 3) ∧ (V (96 + 47 * p + 4) = 119 ∨ V (96 + 47 * p + 4) = 100 → v ≤ 2)) : zIV t (zup V (96 + 47 * p + 5) v) := by
  obtain ⟨a0, a1, a2, a3, aT, aH, aM, aR⟩ := hI
  have e : ∀ j, j ≠ 96 + 47 * p + 5 → zup V (96 + 47 * p + 5) v j = V j := fun j hj => zup_ne hj
  have s : ∀ j, j = 96 + 47 * p + 5 → zup V (96 + 47 * p + 5) v j = v := fun j hj => zup_at hj
  refine ⟨?_, ?_, ?_, fun i h0 h1 => ?_, fun i h0 h1 => ?_, fun q h0 h1 => ?_, fun p' h0 h1 => ?_, fun i h0 h1 => ?_⟩
  · rw [e 0 (by omega)]; exact a0
  · rw [e 1 (by omega)]; exact a1
  · rw [e 2 (by omega)]; exact a2
  · have := a3 i h0 h1
    by_cases hi : i = 96 + 47 * p + 5
    · rw [s i hi]; omega
    · rw [e i hi]; exact this
  · rw [e i (by omega)]; exact aT i h0 h1
  · rw [e 1 (by omega)] at h1
    obtain ⟨b1, b2, b3, b4⟩ := aH q h0 h1
    rw [e 0 (by omega)]
    unfold zup
    refine ⟨?_, ?_, ?_, ?_⟩ <;> (split <;> first | assumption | omega)
  · rw [e 2 (by omega)] at h1
    obtain ⟨b1, b2, b3, b4, b5, b6, b7, b8, b9⟩ := aM p' h0 h1
    rw [e 1 (by omega), e 3 (by omega)]
    refine ⟨?_, ?_, ?_, ?_, ?_, ?_, ?_, ?_, fun q q0 q1 => ?_⟩
    · unfold zup; split <;> first | assumption | omega
    · unfold zup; split <;> first | assumption | omega
    · unfold zup; split <;> first | assumption | omega
    · unfold zup; split <;> first | assumption | omega
    · unfold zup; split <;> first | assumption | omega
    · unfold zup; split <;> first | assumption | omega
    · rcases Decidable.em (p' = p) with hq | hq
      · subst hq; unfold zup; split <;> (try split) <;> first | assumption | omega
      · unfold zup; split <;> (try split) <;> first | assumption | omega
    · unfold zup; split <;> first | assumption | omega
    · have := b9 q q0 q1
      unfold zup; split <;> first | assumption | omega
  · have := aR i h0 h1
    by_cases hi : i = 96 + 47 * p + 5
    · rw [s i hi]; omega
    · rw [e i hi]; exact this
theorem zIV_don {t p v : Int} {V : Int → Int} (hI : zIV t V) (hp : 0 ≤ p ∧ p < 8) (hv : 0 ≤ v ∧ v ≤ 5) : zIV t (zup V (96 + 47 * p + 6) v) := by
  obtain ⟨a0, a1, a2, a3, aT, aH, aM, aR⟩ := hI
  have e : ∀ j, j ≠ 96 + 47 * p + 6 → zup V (96 + 47 * p + 6) v j = V j := fun j hj => zup_ne hj
  have s : ∀ j, j = 96 + 47 * p + 6 → zup V (96 + 47 * p + 6) v j = v := fun j hj => zup_at hj
  refine ⟨?_, ?_, ?_, fun i h0 h1 => ?_, fun i h0 h1 => ?_, fun q h0 h1 => ?_, fun p' h0 h1 => ?_, fun i h0 h1 => ?_⟩
  · rw [e 0 (by omega)]; exact a0
  · rw [e 1 (by omega)]; exact a1
  · rw [e 2 (by omega)]; exact a2
  · have := a3 i h0 h1
    by_cases hi : i = 96 + 47 * p + 6
    · rw [s i hi]; omega
    · rw [e i hi]; exact this
  · rw [e i (by omega)]; exact aT i h0 h1
  · rw [e 1 (by omega)] at h1
    obtain ⟨b1, b2, b3, b4⟩ := aH q h0 h1
    rw [e 0 (by omega)]
    unfold zup
    refine ⟨?_, ?_, ?_, ?_⟩ <;> (split <;> first | assumption | omega)
  · rw [e 2 (by omega)] at h1
    obtain ⟨b1, b2, b3, b4, b5, b6, b7, b8, b9⟩ := aM p' h0 h1
    rw [e 1 (by omega), e 3 (by omega)]
    refine ⟨?_, ?_, ?_, ?_, ?_, ?_, ?_, ?_, fun q q0 q1 => ?_⟩
    · unfold zup; split <;> first | assumption | omega
    · unfold zup; split <;> first | assumption | omega
    · unfold zup; split <;> first | assumption | omega
    · unfold zup; split <;> first | assumption | omega
    · unfold zup; split <;> first | assumption | omega
    · unfold zup; split <;> first | assumption | omega
    · rcases Decidable.em (p' = p) with hq | hq
      · subst hq; unfold zup; split <;> (try split) <;> first | assumption | omega
      · unfold zup; split <;> (try split) <;> first | assumption | omega
    · unfold zup; split <;> first | assumption | omega
    · have := b9 q q0 q1
      unfold zup; split <;> first | assumption | omega
  · have := aR i h0 h1
    by_cases hi : i = 96 + 47 * p + 6
    · rw [s i hi]; omega
    · rw [e i hi]; exact this
theorem zIV_hea {t p k v : Int} {V : Int → Int} (hI : zIV t V) (hp : 0 ≤ p ∧ p < 8) (hk : 7 ≤ k ∧ k < 47) (hv : 0 ≤ v ∧ v ≤ t + 1000) : zIV t (zup V (96 + 47 * p + k) v) := by
  obtain ⟨a0, a1, a2, a3, aT, aH, aM, aR⟩ := hI
  have e : ∀ j, j ≠ 96 + 47 * p + k → zup V (96 + 47 * p + k) v j = V j := fun j hj => zup_ne hj
  have s : ∀ j, j = 96 + 47 * p + k → zup V (96 + 47 * p + k) v j = v := fun j hj => zup_at hj
  refine ⟨?_, ?_, ?_, fun i h0 h1 => ?_, fun i h0 h1 => ?_, fun q h0 h1 => ?_, fun p' h0 h1 => ?_, fun i h0 h1 => ?_⟩
  · rw [e 0 (by omega)]; exact a0
  · rw [e 1 (by omega)]; exact a1
  · rw [e 2 (by omega)]; exact a2
  · have := a3 i h0 h1
    by_cases hi : i = 96 + 47 * p + k
    · rw [s i hi]; omega
    · rw [e i hi]; exact this
  · rw [e i (by omega)]; exact aT i h0 h1
  · rw [e 1 (by omega)] at h1
    obtain ⟨b1, b2, b3, b4⟩ := aH q h0 h1
    rw [e 0 (by omega)]
    unfold zup
    refine ⟨?_, ?_, ?_, ?_⟩ <;> (split <;> first | assumption | omega)
  · rw [e 2 (by omega)] at h1
    obtain ⟨b1, b2, b3, b4, b5, b6, b7, b8, b9⟩ := aM p' h0 h1
    rw [e 1 (by omega), e 3 (by omega)]
    refine ⟨?_, ?_, ?_, ?_, ?_, ?_, ?_, ?_, fun q q0 q1 => ?_⟩
    · unfold zup; split <;> first | assumption | omega
    · unfold zup; split <;> first | assumption | omega
    · unfold zup; split <;> first | assumption | omega
    · unfold zup; split <;> first | assumption | omega
    · unfold zup; split <;> first | assumption | omega
    · unfold zup; split <;> first | assumption | omega
    · rcases Decidable.em (p' = p) with hq | hq
      · subst hq; unfold zup; split <;> (try split) <;> first | assumption | omega
      · unfold zup; split <;> (try split) <;> first | assumption | omega
    · unfold zup; split <;> first | assumption | omega
    · have := b9 q q0 q1
      unfold zup; split <;> first | assumption | omega
  · have := aR i h0 h1
    by_cases hi : i = 96 + 47 * p + k
    · rw [s i hi]; omega
    · rw [e i hi]; exact this
theorem zIV_rin {t w v : Int} {V : Int → Int} (hI : zIV t V) (hi : 472 ≤ w ∧ w < 1496) (hv : 0 ≤ v ∧ v ≤ t) : zIV t (zup V (w) v) := by
  obtain ⟨a0, a1, a2, a3, aT, aH, aM, aR⟩ := hI
  have e : ∀ j, j ≠ w → zup V (w) v j = V j := fun j hj => zup_ne hj
  have s : ∀ j, j = w → zup V (w) v j = v := fun j hj => zup_at hj
  refine ⟨?_, ?_, ?_, fun i h0 h1 => ?_, fun i h0 h1 => ?_, fun q h0 h1 => ?_, fun p' h0 h1 => ?_, fun i h0 h1 => ?_⟩
  · rw [e 0 (by omega)]; exact a0
  · rw [e 1 (by omega)]; exact a1
  · rw [e 2 (by omega)]; exact a2
  · have := a3 i h0 h1
    by_cases hi : i = w
    · rw [s i hi]; omega
    · rw [e i hi]; exact this
  · rw [e i (by omega)]; exact aT i h0 h1
  · rw [e 1 (by omega)] at h1
    obtain ⟨b1, b2, b3, b4⟩ := aH q h0 h1
    rw [e 0 (by omega)]
    unfold zup
    refine ⟨?_, ?_, ?_, ?_⟩ <;> (split <;> first | assumption | omega)
  · rw [e 2 (by omega)] at h1
    obtain ⟨b1, b2, b3, b4, b5, b6, b7, b8, b9⟩ := aM p' h0 h1
    rw [e 1 (by omega), e 3 (by omega)]
    refine ⟨?_, ?_, ?_, ?_, ?_, ?_, ?_, ?_, fun q q0 q1 => ?_⟩
    · unfold zup; split <;> first | assumption | omega
    · unfold zup; split <;> first | assumption | omega
    · unfold zup; split <;> first | assumption | omega
    · unfold zup; split <;> first | assumption | omega
    · unfold zup; split <;> first | assumption | omega
    · unfold zup; split <;> first | assumption | omega
    · unfold zup; split <;> split <;> first | assumption | omega
    · unfold zup; split <;> first | assumption | omega
    · have := b9 q q0 q1
      unfold zup; split <;> first | assumption | omega
  · have := aR i h0 h1
    by_cases hi : i = w
    · rw [s i hi]; omega
    · rw [e i hi]; exact this
