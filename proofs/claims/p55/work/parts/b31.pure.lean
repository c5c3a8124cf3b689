/-! shortest delays are the same both ways; the nearest way of the law; counting tunnels -/
theorem zBF_tri {V : Int → Int} (hT : ∀ i, 8 ≤ i → i < 72 → 0 ≤ V i ∧ V i ≤ 9) (hN : zTn V) {s b : Int} (hs : zc8 s) (hb : zc8 b) : ∀ (n : Nat) (a : Int), zc8 a → zBF V b a ≤ n → zBF V b a < 1000 → zBF V s b ≤ zBF V s a + zBF V b a := by
  intro n
  have dS := zBF_SP hT hs
  have dB := zBF_SP hT hb
  induction n with
  | zero =>
    intro a ha h1 h2
    by_cases e : a = b
    · rw [e, dB.1]; omega
    · obtain ⟨u, u0, u8, hu, hd⟩ := dB.2.2.2 a ha.1 ha.2 e h2
      have := (dB.2.1 u u0 u8).1
      omega
  | succ n ih =>
    intro a ha h1 h2
    by_cases e : a = b
    · rw [e, dB.1]; omega
    · obtain ⟨u, u0, u8, hu, hd⟩ := dB.2.2.2 a ha.1 ha.2 e h2
      have i1 := ih u ⟨u0, u8⟩ (by omega) (by omega)
      have hsy := hN.1 u a ⟨u0, u8⟩ ha
      have i2 := dS.2.2.1 a u ha.1 ha.2 u0 u8 (by omega)
      omega
theorem zBF_le {V : Int → Int} (hT : ∀ i, 8 ≤ i → i < 72 → 0 ≤ V i ∧ V i ≤ 9) (hN : zTn V) {a b : Int} (ha : zc8 a) (hb : zc8 b) : zBF V a b ≤ zBF V b a := by
  have dA := zBF_SP hT ha
  have h1 := (dA.2.1 b hb.1 hb.2).2
  by_cases h : zBF V b a < 1000
  · have := zBF_tri hT hN ha hb 1000 a ha (by omega) h
    rw [dA.1] at this
    omega
  · have dB := zBF_SP hT hb
    have h2 := (dB.2.1 a ha.1 ha.2).2
    omega
theorem zBF_sy {V : Int → Int} (hT : ∀ i, 8 ≤ i → i < 72 → 0 ≤ V i ∧ V i ≤ 9) (hN : zTn V) {a b : Int} (ha : zc8 a) (hb : zc8 b) : zBF V a b = zBF V b a := by
  have h1 := zBF_le hT hN ha hb
  have h2 := zBF_le hT hN hb ha
  omega
/-- one chamber more, looked at from a -/
def zne1 (V : Int → Int) (a : Int) (f : Int → Int) (k c : Int) : Int :=
  if 0 < c ∧ 0 < V (8 + 8 * a + k) then (if c ≤ V (8 + 8 * a + k) + f k then c else V (8 + 8 * a + k) + f k) else c
/-- the shortest by ways of at most m tunnels to b -/
def zne (V : Int → Int) (b : Int) : Nat → Int → Int
  | 0, a => if a = b then 0 else 999
  | m + 1, a => zfold (zne1 V a (zne V b m)) (V 0).toNat (if a = b then 0 else 999)
theorem zne1_le {V : Int → Int} {a : Int} {f : Int → Int} {k c : Int} : zne1 V a f k c ≤ c := by
  unfold zne1
  split
  · split <;> omega
  · exact Int.le_refl c
theorem zne1_ge {V : Int → Int} {a : Int} {f : Int → Int} {k c x : Int} (h : x ≤ c) (h2 : 0 < V (8 + 8 * a + k) → x ≤ V (8 + 8 * a + k) + f k) : x ≤ zne1 V a f k c := by
  unfold zne1
  split
  · rename_i hh
    split
    · exact h
    · exact h2 hh.2
  · exact h
theorem zne_f_ge {V : Int → Int} {a : Int} {f : Int → Int} {c x : Int} (h : x ≤ c) : ∀ n : Nat, (∀ k : Int, 0 ≤ k → k < n → 0 < V (8 + 8 * a + k) → x ≤ V (8 + 8 * a + k) + f k) → x ≤ zfold (zne1 V a f) n c
  | 0, _ => h
  | n + 1, h2 => zne1_ge (zne_f_ge h n (fun k k0 k1 => h2 k k0 (by omega))) (h2 n (by omega) (by omega))
theorem zne_f_le {V : Int → Int} {a : Int} {f : Int → Int} {c : Int} : ∀ n : Nat, zfold (zne1 V a f) n c ≤ c
  | 0 => Int.le_refl c
  | n + 1 => Int.le_trans zne1_le (zne_f_le n)
theorem zne_f_at {V : Int → Int} {a : Int} {f : Int → Int} {c u : Int} (hu : 0 < V (8 + 8 * a + u)) (hf : 0 ≤ f u) : ∀ n : Nat, 0 ≤ u → u < n → zfold (zne1 V a f) n c ≤ V (8 + 8 * a + u) + f u
  | 0, _, h => by omega
  | n + 1, u0, h => by
    show zne1 V a f n (zfold (zne1 V a f) n c) ≤ _
    by_cases e : u = n
    · unfold zne1
      rw [← e]
      split
      · split <;> omega
      · rename_i hh
        have : ¬ 0 < zfold (zne1 V a f) n c := fun z => hh ⟨z, hu⟩
        omega
    · exact Int.le_trans zne1_le (zne_f_at hu hf n u0 (by omega))
/-- once 0, always 0 -/
theorem zne_f_0 {V : Int → Int} {a : Int} {f : Int → Int} {c : Int} {k : Nat} (h : ¬ 0 < zfold (zne1 V a f) k c) : ∀ n : Nat, zfold (zne1 V a f) (k + n) c = zfold (zne1 V a f) k c
  | 0 => rfl
  | n + 1 => by
    show zne1 V a f _ (zfold (zne1 V a f) (k + n) c) = _
    rw [zne_f_0 h n]
    unfold zne1
    rw [if_neg (fun z => h z.1)]
theorem zne_bd {V : Int → Int} {b : Int} : ∀ (m : Nat) (a : Int), 0 ≤ zne V b m a ∧ zne V b m a ≤ 999
  | 0, a => by
    show 0 ≤ (if a = b then (0 : Int) else 999) ∧ (if a = b then (0 : Int) else 999) ≤ 999
    split <;> omega
  | m + 1, a => by
    have h0 : 0 ≤ (if a = b then (0 : Int) else 999) ∧ (if a = b then (0 : Int) else 999) ≤ 999 := by split <;> omega
    refine ⟨zne_f_ge h0.1 _ (fun k _ _ hk => ?_), Int.le_trans (zne_f_le _) h0.2⟩
    have := (zne_bd (V := V) (b := b) m k).1
    omega
theorem zcnt_N {N : Int} (h0 : 0 ≤ N) : ∀ n : Nat, zcnt (fun u => u < N) n ≤ N
  | 0 => h0
  | n + 1 => by
    have ih := zcnt_N h0 n
    have hb := (zcnt_bd (P := fun u => u < N) n).2
    show zcnt (fun u => u < N) n + zb ((n : Int) < N) ≤ N
    unfold zb
    split <;> omega
theorem zne_is {V : Int → Int} (hT : ∀ i, 8 ≤ i → i < 72 → 0 ≤ V i ∧ V i ≤ 9) (hN : zTn V) (h8 : V 0 ≤ 8) {b : Int} (hb : zisC V b) :
    (∀ (m : Nat) (a : Int), zisC V a → (if zBF V b a = 1000 then 999 else zBF V b a) ≤ zne V b m a) ∧ ∀ (m : Nat) (a : Int), zisC V a → zBF V b a < 1000 → zcnt (fun u => zBF V b u < zBF V b a) 8 ≤ m → zne V b m a ≤ zBF V b a := by
  have b8 : zc8 b := ⟨hb.1, by have := hb.2; omega⟩
  have dB := zBF_SP hT b8
  constructor
  · intro m
    induction m with
    | zero =>
      intro a ha
      have h1 := (dB.2.1 a ha.1 (by have := ha.2; omega)).2
      show _ ≤ if a = b then (0 : Int) else 999
      by_cases e : a = b
      · rw [if_pos e, e, dB.1, if_neg (by decide)]
        exact Int.le_refl 0
      · rw [if_neg e]
        split <;> omega
    | succ m ih =>
      intro a ha
      have a8 : a < 8 := by have := ha.2; omega
      have h1 := (dB.2.1 a ha.1 a8).2
      refine zne_f_ge ?_ _ (fun k k0 k1 hk => ?_)
      · by_cases e : a = b
        · rw [if_pos e, e, dB.1, if_neg (by decide)]
          exact Int.le_refl 0
        · rw [if_neg e]
          split <;> omega
      · have k8 : k < 8 := by omega
        have hi := ih k ⟨k0, by omega⟩
        have hd := dB.2.2.1 k a k0 k8 ha.1 a8 (by have := hN.1 k a ⟨k0, k8⟩ ⟨ha.1, a8⟩; omega)
        have hsy := hN.1 k a ⟨k0, k8⟩ ⟨ha.1, a8⟩
        have hz := (hT (8 + 8 * a + k) (by have := ha.1; omega) (by omega)).2
        by_cases e : zBF V b k = 1000
        · rw [if_pos e] at hi
          split <;> omega
        · rw [if_neg e] at hi
          have hk2 := (dB.2.1 k k0 k8).2
          have h63 := zBF_63 hT b8 (v := k) ⟨k0, k8⟩ (by omega)
          rw [if_neg (by omega)]
          omega
  · intro m
    induction m with
    | zero =>
      intro a ha hd hr
      have a8 : a < 8 := by have := ha.2; omega
      show (if a = b then (0 : Int) else 999) ≤ _
      by_cases e : a = b
      · rw [if_pos e]
        exact (dB.2.1 a ha.1 a8).1
      · obtain ⟨u, u0, u8, hu, hdu⟩ := dB.2.2.2 a ha.1 a8 e hd
        have hc := zcnt_lt (P := fun _ => False) (Q := fun u => zBF V b u < zBF V b a) (fun _ h => h.elim) (u := u) (fun h => h) (show zBF V b u < zBF V b a by omega) 8 u0 (by omega)
        have := (zcnt_bd (P := fun _ => False) 8).1
        omega
    | succ m ih =>
      intro a ha hd hr
      have a8 : a < 8 := by have := ha.2; omega
      by_cases e : a = b
      · have h1 := (dB.2.1 a ha.1 a8).1
        refine Int.le_trans (zne_f_le _) ?_
        rw [if_pos e]
        exact h1
      · obtain ⟨u, u0, u8, hu, hdu⟩ := dB.2.2.2 a ha.1 a8 e hd
        have hsy := hN.1 u a ⟨u0, u8⟩ ⟨ha.1, a8⟩
        have hu0 : u < V 0 := Int.not_le.mp (fun h => by
          have := hN.2 u a ⟨u0, u8⟩ ⟨ha.1, a8⟩ (Or.inl h)
          omega)
        have hc := zcnt_lt (P := fun w => zBF V b w < zBF V b u) (Q := fun w => zBF V b w < zBF V b a) (fun _ h => by omega) (u := u) (by omega) (show zBF V b u < zBF V b a by omega) 8 u0 (by omega)
        have hi := ih u ⟨u0, hu0⟩ (by omega) (by omega)
        have := zne_f_at (V := V) (a := a) (f := zne V b m) (c := if a = b then 0 else 999) (u := u) (by omega) (zne_bd m u).1 (V 0).toNat u0 (by omega)
        show zfold (zne1 V a (zne V b m)) (V 0).toNat (if a = b then 0 else 999) ≤ _
        omega
theorem zne_end {V : Int → Int} (hT : ∀ i, 8 ≤ i → i < 72 → 0 ≤ V i ∧ V i ≤ 9) (hN : zTn V) (h8 : V 0 ≤ 8) {a b : Int} (ha : zisC V a) (hb : zisC V b) {m : Nat} (hm : (m : Int) = V 0 - 1) : zne V b m a = if zBF V a b = 1000 then 999 else zBF V a b := by
  have a8 : zc8 a := ⟨ha.1, by have := ha.2; omega⟩
  have b8 : zc8 b := ⟨hb.1, by have := hb.2; omega⟩
  obtain ⟨h1, h2⟩ := zne_is hT hN h8 hb
  have q1 := h1 m a ha
  have dB := zBF_SP hT b8
  have q3 := (dB.2.1 a a8.1 a8.2).2
  rw [zBF_sy hT hN a8 b8]
  by_cases e : zBF V b a = 1000
  · rw [if_pos e] at q1 ⊢
    have := (zne_bd (V := V) (b := b) m a).2
    omega
  · rw [if_neg e] at q1 ⊢
    have hP : ∀ u, zBF V b u < zBF V b a → u < V 0 ∨ ¬ (0 ≤ u ∧ u < 8) := fun u hu => by
      by_cases hz : 0 ≤ u ∧ u < 8
      · refine Or.inl (Int.not_le.mp (fun h => ?_))
        have hub : u ≠ b := by have := hb.2; omega
        obtain ⟨w, w0, w8, hw, -⟩ := dB.2.2.2 u hz.1 hz.2 hub (by omega)
        have := hN.2 w u ⟨w0, w8⟩ hz (Or.inr (Or.inl h))
        omega
      · exact Or.inr hz
    have hc : zcnt (fun u => zBF V b u < zBF V b a) 8 < zcnt (fun u => u < V 0 ∨ ¬ (0 ≤ u ∧ u < 8)) 8 := zcnt_lt hP (u := a) (by omega) (Or.inl ha.2) 8 a8.1 a8.2
    have he : ∀ n : Nat, n ≤ 8 → zcnt (fun u => u < V 0 ∨ ¬ (0 ≤ u ∧ u < 8)) n = zcnt (fun u => u < V 0) n := by
      intro n
      induction n with
      | zero => intro _; rfl
      | succ n ih =>
        intro hn
        show zcnt _ n + zb ((n : Int) < V 0 ∨ ¬ (0 ≤ (n : Int) ∧ (n : Int) < 8)) = zcnt _ n + zb ((n : Int) < V 0)
        rw [ih (by omega)]
        congr 1
        by_cases hz : (n : Int) < V 0
        · rw [zb_t hz, zb_t (Or.inl hz)]
        · rw [zb_f hz, zb_f (by omega)]
    rw [he 8 (by omega)] at hc
    have := zcnt_N (N := V 0) (by have := ha.1; have := ha.2; omega) 8
    have := h2 m a ha (by omega) (by omega)
    omega
/-- the tunnels seen from both ends -/
def zs1 (f : Int → Int → Int) (a : Int) (n : Nat) : Int := zfold (fun b c => c + f a b) n 0
def zs2 (f : Int → Int → Int) (m n : Nat) : Int := zfold (fun a c => c + zs1 f a m) n 0
def zs3 (f : Int → Int → Int) (n : Nat) : Int := zfold (fun a c => c + zs1 f a a.toNat) n 0
theorem zs2_1 {f : Int → Int → Int} (m : Nat) : ∀ n : Nat, zs2 f (m + 1) n = zs2 f m n + zs1 (fun b a => f a b) m n
  | 0 => rfl
  | n + 1 => by
    show zs2 f (m + 1) n + zs1 f n (m + 1) = zs2 f m n + zs1 f n m + (zs1 (fun b a => f a b) m n + f n m)
    rw [zs2_1 m n]
    show _ + (zs1 f n m + f n m) = _
    omega
theorem zs1_c {f f' : Int → Int → Int} {a : Int} : ∀ n : Nat, (∀ b, 0 ≤ b → b < (n : Int) → f a b = f' a b) → zs1 f a n = zs1 f' a n
  | 0, _ => rfl
  | n + 1, h => by
    show zs1 f a n + f a n = zs1 f' a n + f' a n
    rw [zs1_c n (fun b b0 b1 => h b b0 (by omega)), h n (by omega) (by omega)]
theorem zs_two {f : Int → Int → Int} (h8 : ∀ a b, zc8 a → zc8 b → f a b = f b a) (h0 : ∀ a, zc8 a → f a a = 0) : ∀ n : Nat, n ≤ 8 → zs2 f n n = 2 * zs3 f n
  | 0, _ => rfl
  | n + 1, hn => by
    show zs2 f (n + 1) n + zs1 f n (n + 1) = 2 * (zs3 f n + zs1 f n ((n : Int)).toNat)
    rw [zs2_1, zs_two h8 h0 n (by omega), show ((n : Int)).toNat = n by omega]
    show _ + _ + (zs1 f n n + f n n) = _
    rw [h0 n ⟨by omega, by omega⟩, zs1_c (f := fun b a => f a b) (f' := f) n (fun b b0 b1 => h8 b n ⟨b0, by omega⟩ ⟨by omega, by omega⟩)]
    omega
theorem zs3_more {f : Int → Int → Int} {n : Nat} (h : ∀ a b, zc8 a → zc8 b → (n : Int) ≤ a → f a b = 0) : ∀ k : Nat, n + k ≤ 8 → zs3 f (n + k) = zs3 f n
  | 0, _ => rfl
  | k + 1, hk => by
    show zs3 f (n + k) + zs1 f ((n + k : Nat) : Int) (((n + k : Nat) : Int)).toNat = _
    rw [zs3_more h k (by omega)]
    have : ∀ m : Nat, m ≤ n + k → zs1 f ((n + k : Nat) : Int) m = 0 := by
      intro m
      induction m with
      | zero => intro _; rfl
      | succ m ih =>
        intro hm
        show zs1 f _ m + f _ m = 0
        rw [ih (by omega), h _ _ ⟨by omega, by omega⟩ ⟨by omega, by omega⟩ (by omega)]
        rfl
    rw [show (((n + k : Nat) : Int)).toNat = n + k by omega, this (n + k) (Nat.le_refl _)]
    omega
theorem zs1_from {f : Int → Int → Int} {a : Int} (c : Int) : ∀ n : Nat, zfold (fun b c => c + f a b) n c = c + zs1 f a n
  | 0 => (Int.add_zero c).symm
  | n + 1 => by
    show zfold (fun b c => c + f a b) n c + f a n = c + (zs1 f a n + f a n)
    rw [zs1_from c n]
    omega
theorem zs3_is {f : Int → Int → Int} : ∀ n : Nat, zfold (fun a c => zfold (fun b c => c + f a b) a.toNat c) n 0 = zs3 f n
  | 0 => rfl
  | n + 1 => by
    show zfold (fun b c => c + f n b) (n : Int).toNat (zfold (fun a c => zfold (fun b c => c + f a b) a.toNat c) n 0) = zs3 f n + zs1 f n (n : Int).toNat
    rw [zs1_from, zs3_is n]
abbrev zfT (V : Int → Int) : Int → Int → Int := fun a b => zb (0 < V (8 + 8 * a + b))
theorem zTu_two {V : Int → Int} (hN : zTn V) (h0 : 0 ≤ V 0) (h8 : V 0 ≤ 8) {n : Nat} (hn : (n : Int) = V 0) : zs2 (zfT V) n n = 2 * zTu V := by
  rw [zs_two (fun a b ha hb => by show zb (0 < V (8 + 8 * a + b)) = zb (0 < V (8 + 8 * b + a)); rw [hN.1 a b ha hb]) (fun a ha => by show zb (0 < V (8 + 8 * a + a)) = 0; rw [hN.2 a a ha ha (Or.inr (Or.inr rfl))]; rfl) n (by omega)]
  have := zs3_more (f := zfT V) (n := n) (fun a b ha hb hna => by show zb (0 < V (8 + 8 * a + b)) = 0; rw [hN.2 a b ha hb (Or.inl (by omega))]; rfl) (8 - n) (by omega)
  rw [show n + (8 - n) = 8 by omega] at this
  rw [← this]
  exact congrArg (fun x => 2 * x) (zs3_is (f := zfT V) 8).symm
theorem zs1_bd {f : Int → Int → Int} {a : Int} (h : ∀ a b, 0 ≤ f a b ∧ f a b ≤ 1) : ∀ n : Nat, 0 ≤ zs1 f a n ∧ zs1 f a n ≤ n
  | 0 => ⟨Int.le_refl 0, Int.le_refl 0⟩
  | n + 1 => by
    have h1 := zs1_bd (a := a) h n
    have h2 := h a n
    show 0 ≤ zs1 f a n + f a n ∧ zs1 f a n + f a n ≤ _
    omega
theorem zs2_bd {f : Int → Int → Int} {m : Nat} (h : ∀ a b, 0 ≤ f a b ∧ f a b ≤ 1) (hm : m ≤ 8) : ∀ n : Nat, 0 ≤ zs2 f m n ∧ zs2 f m n ≤ 8 * n
  | 0 => ⟨Int.le_refl 0, Int.le_refl 0⟩
  | n + 1 => by
    have h1 := zs2_bd h hm n
    have h2 := zs1_bd (a := n) h m
    show 0 ≤ zs2 f m n + zs1 f n m ∧ zs2 f m n + zs1 f n m ≤ _
    omega
theorem zb_bd (P : Prop) [Decidable P] : 0 ≤ zb P ∧ zb P ≤ 1 := by have := zb_01 P; omega
/-! the answers in a warren -/
section QW
variable {t many : Int} {V : Int → Int} {U : Int → Int → Int} {M F : zMem}
theorem zLw.tT (h : zLw t many V U M F) : ∀ i, 8 ≤ i → i < 72 → 0 ≤ V i ∧ V i ≤ 9 := h.iv.2.2.2.2.1
theorem zLw.v0 (h : zLw t many V U M F) : 0 ≤ V 0 ∧ V 0 ≤ 8 := h.iv.1
theorem zLw.v1 (h : zLw t many V U M F) : 0 ≤ V 1 ∧ V 1 ≤ 6 := h.iv.2.1
theorem zLw.v2 (h : zLw t many V U M F) : 0 ≤ V 2 ∧ V 2 ≤ 8 := h.iv.2.2.1
theorem zLw.v3 (h : zLw t many V U M F) : 0 ≤ V 3 ∧ V 3 ≤ t := h.iv.2.2.2.1 3 (by decide) (by decide)
theorem zLw.v4 (h : zLw t many V U M F) : 0 ≤ V 4 ∧ V 4 ≤ t := h.iv.2.2.2.1 4 (by decide) (by decide)
theorem zLw.v5 (h : zLw t many V U M F) : 0 ≤ V 5 ∧ V 5 ≤ t := h.iv.2.2.2.1 5 (by decide) (by decide)
theorem zLw.v6 (h : zLw t many V U M F) : 0 ≤ V 6 ∧ V 6 ≤ t := h.iv.2.2.2.1 6 (by decide) (by decide)
theorem zLw.v7 (h : zLw t many V U M F) : 0 ≤ V 7 ∧ V 7 ≤ t := h.iv.2.2.2.1 7 (by decide) (by decide)
theorem qDl_in {a b : Int} (h : zisC V a ∧ zisC V b) : qDl V a b = if V (8 + 8 * a + b) = 0 then -13 else V (8 + 8 * a + b) := if_pos h
theorem qDl_sy (hL : zLw t many V U M F) {a b : Int} (h : zisC V a ∧ zisC V b) : qDl V b a = qDl V a b := by
  have h8 := hL.v0
  obtain ⟨⟨h1, h2⟩, h3, h4⟩ := h
  rw [qDl_in ⟨⟨h1, h2⟩, h3, h4⟩, qDl_in ⟨⟨h3, h4⟩, h1, h2⟩, hL.tn.1 b a ⟨h3, by omega⟩ ⟨h1, by omega⟩]
theorem qDl_sf (hL : zLw t many V U M F) {a : Int} (h : zisC V a) : qDl V a a = -13 := by
  have h8 := hL.v0
  have h1 := h.1
  have h2 := h.2
  rw [qDl_in ⟨h, h⟩, if_pos (hL.tn.2 a a ⟨h1, by omega⟩ ⟨h1, by omega⟩ (Or.inr (Or.inr rfl)))]
theorem qDl_zb {a b : Int} (hL : zLw t many V U M F) (h : zisC V a ∧ zisC V b) : zb (0 < qDl V a b) = zfT V a b := by
  have h8 := hL.v0
  obtain ⟨⟨h1, h2⟩, h3, h4⟩ := h
  have := (hL.tT (8 + 8 * a + b) (by omega) (by omega)).1
  rw [qDl_in ⟨⟨h1, h2⟩, h3, h4⟩]
  show _ = zb (0 < V (8 + 8 * a + b))
  by_cases e : V (8 + 8 * a + b) = 0
  · rw [if_pos e, e]; rfl
  · rw [if_neg e]
theorem qSh_in {a b : Int} (hL : zLw t many V U M F) (h : zisC V a ∧ zisC V b) : (qSh V a b = -13 ∧ zBF V a b = 1000) ∨ (qSh V a b = zBF V a b ∧ zBF V a b ≠ 1000 ∧ 0 ≤ zBF V a b ∧ zBF V a b ≤ 63) := by
  have h8 := hL.v0
  have h1 := h.1.1
  have h2 := h.1.2
  have h3 := h.2.1
  have h4 := h.2.2
  unfold qSh
  rw [if_pos h]
  by_cases e : zBF V a b = 1000
  · rw [if_pos e]; exact Or.inl ⟨rfl, e⟩
  · rw [if_neg e]
    exact Or.inr ⟨rfl, e, (zBF_dl hL.tT ⟨h1, by omega⟩ ⟨h3, by omega⟩).resolve_left e⟩
theorem qSh_le {a b : Int} (hL : zLw t many V U M F) (h : zisC V a ∧ zisC V b) (hd : 0 < qDl V a b) : qSh V a b ≤ qDl V a b := by
  have h8 := hL.v0
  have h1 := h.1.1
  have h2 := h.1.2
  have h3 := h.2.1
  have h4 := h.2.2
  have hq := qDl_in h
  have hs := hL.tT (8 + 8 * a + b) (by omega) (by omega)
  have e : V (8 + 8 * a + b) ≠ 0 := fun z => by rw [hq, if_pos z] at hd; omega
  rw [if_neg e] at hq
  have dA := zBF_SP hL.tT (a := a) ⟨h1, by omega⟩
  have := dA.2.2.1 a b h1 (by omega) h3 (by omega) (by omega)
  rw [dA.1] at this
  rcases qSh_in hL h with ⟨z, -⟩ | ⟨z, -⟩ <;> omega
theorem qNe_in {a b : Int} {m : Nat} (hL : zLw t many V U M F) (h : zisC V a ∧ zisC V b) (hm : (m : Int) = V 0 - 1) : (if zne V b m a = 999 then (-13 : Int) else zne V b m a) = qSh V a b := by
  rw [zne_end hL.tT hL.tn hL.v0.2 h.1 h.2 hm]
  rcases qSh_in hL h with ⟨z, e⟩ | ⟨z, e, z2, z3⟩
  · rw [if_pos e, if_pos rfl, z]
  · rw [if_neg e, if_neg (by omega), z]
end QW
