/-! floats and doubles from zero to infinity: what is made of them is such a one -/
def zf32 (x : UInt32) : Prop := x.toNat ≤ 2139095040
def zfn32 (x : UInt32) : Prop := ∃ c q, FP.Core.decode FP.Core.b32 x.toNat = .fin false c q ∧ c ≠ 0
theorem zf_T32 : FP.Core.Fmt.tails FP.Core.b32 = 8388608 := rfl
theorem zf_X32 : FP.Core.Fmt.exps FP.Core.b32 = 256 := rfl
theorem zf_q32 : FP.Core.Fmt.qmin FP.Core.b32 = -149 := rfl
theorem zf_Q32 : FP.Core.Fmt.qmax FP.Core.b32 = 104 := rfl
theorem zf_P32 : 2 ^ FP.Core.Fmt.p FP.Core.b32 = 16777216 := rfl
theorem zf_dec32 {n : Nat} (h : n ≤ 2139095040) : (∃ c q, FP.Core.decode FP.Core.b32 n = .fin false c q) ∨ FP.Core.decode FP.Core.b32 n = .inf false := by
  have hS : FP.Core.fieldS FP.Core.b32 n = false := by
    unfold FP.Core.fieldS
    rw [zf_T32, zf_X32]
    have : n / 8388608 / 256 % 2 = 0 := by omega
    rw [this]
    rfl
  unfold FP.Core.decode
  rw [hS]
  by_cases hE : FP.Core.fieldE FP.Core.b32 n = FP.Core.Fmt.exps FP.Core.b32 - 1
  · rw [if_pos hE]
    have hT : FP.Core.fieldT FP.Core.b32 n = 0 := by
      unfold FP.Core.fieldE at hE
      unfold FP.Core.fieldT
      rw [zf_T32, zf_X32] at hE
      rw [zf_T32]
      omega
    rw [if_pos hT]
    exact Or.inr rfl
  · rw [if_neg hE]
    by_cases h0 : FP.Core.fieldE FP.Core.b32 n = 0
    · rw [if_pos h0]
      exact Or.inl ⟨_, _, rfl⟩
    · rw [if_neg h0]
      exact Or.inl ⟨_, _, rfl⟩
/-- data that an encoding of such a one stands for -/
def zfD32 (d : FP.Core.Datum) : Prop := d = .inf false ∨ ∃ c q, d = .fin false c q ∧ c < 16777216 ∧ q ≤ 104
theorem zf_enc32 {d : FP.Core.Datum} (h : zfD32 d) : FP.Core.encode FP.Core.b32 d ≤ 2139095040 := by
  rcases h with rfl | ⟨c, q, rfl, hc, hq⟩
  · exact Nat.le_of_ble_eq_true rfl
  · show (if c < FP.Core.Fmt.tails FP.Core.b32 then FP.Core.assemble FP.Core.b32 false 0 c else FP.Core.assemble FP.Core.b32 false ((q - FP.Core.Fmt.qmin FP.Core.b32).toNat + 1) (c - FP.Core.Fmt.tails FP.Core.b32)) ≤ 2139095040
    unfold FP.Core.assemble
    rw [zf_T32, zf_X32, zf_q32, show false.toNat = 0 from rfl]
    split <;> omega
theorem zf_bound32 {c : Nat} {q : Int} (hc : c < 16777216) : zfD32 (FP.Core.bound FP.Core.b32 false c q) := by
  unfold FP.Core.bound
  rw [zf_Q32]
  split
  · rename_i h
    exact Or.inr ⟨c, q, rfl, hc, h⟩
  · exact Or.inl rfl
theorem zf_settle32 {c : Nat} {q : Int} : zfD32 (FP.Core.settle FP.Core.b32 false c q) := by
  unfold FP.Core.settle
  rw [zf_P32]
  split
  · rename_i h
    exact zf_bound32 h
  · exact zf_bound32 (by rw [zf_T32]; omega)
theorem zf_rr32 (num den : Nat) (e : Int) : zfD32 (FP.Core.roundRatio FP.Core.b32 false num den e) := by
  unfold FP.Core.roundRatio
  split
  · exact Or.inr ⟨0, _, rfl, by omega, by rw [zf_q32]; omega⟩
  · unfold FP.Core.roundAt
    exact zf_settle32
theorem zf_of32 {n : Nat} (h : n ≤ 2139095040) : zf32 (UInt32.ofNat n) := by
  show (UInt32.ofNat n).toNat ≤ _
  rw [UInt32.toNat_ofNat', Nat.mod_eq_of_lt (by omega)]
  exact h
theorem zf_ok32 {r : UInt32} (h : zf32 r) : vf_n32 r := by
  have h1 : r.toNat ≤ 2139095040 := h
  show r &&& 2147483647 ≤ 2139095040
  rw [UInt32.le_iff_toNat_le, UInt32.toNat_and]
  show r.toNat &&& 2147483647 ≤ 2139095040
  rw [show (2147483647 : Nat) = 2 ^ 31 - 1 from rfl, Nat.and_two_pow_sub_one_eq_mod, Nat.mod_eq_of_lt (by omega)]
  exact h1
theorem zf_add32 {x y : UInt32} (hx : zf32 x) (hy : zf32 y) : zf32 (FP.fadd x y) := by
  refine zf_of32 (zf_enc32 ?_)
  rcases zf_dec32 hx with ⟨c, q, ex⟩ | ex <;> rcases zf_dec32 hy with ⟨d, r, ey⟩ | ey <;> rw [ex, ey]
  · have hs : FP.Core.sumSign false false (FP.Core.sumUnits false c q false d r (min q r)) = false := by
      have h0 : 0 ≤ FP.Core.sumUnits false c q false d r (min q r) := by
        show (0 : Int) ≤ ((FP.Core.inUnits c q (min q r) : Nat) : Int) + ((FP.Core.inUnits d r (min q r) : Nat) : Int)
        omega
      unfold FP.Core.sumSign
      split
      · rfl
      · exact decide_eq_false (by omega)
    show zfD32 (FP.Core.roundRatio FP.Core.b32 (FP.Core.sumSign false false (FP.Core.sumUnits false c q false d r (min q r))) _ 1 _)
    rw [hs]
    exact zf_rr32 _ _ _
  · exact Or.inl rfl
  · exact Or.inl rfl
  · exact Or.inl rfl
theorem zf_div32 {x y : UInt32} (hx : zf32 x) (hy : zfn32 y) : zf32 (FP.fdiv x y) := by
  refine zf_of32 (zf_enc32 ?_)
  obtain ⟨d, r, ey, hd⟩ := hy
  rcases zf_dec32 hx with ⟨c, q, ex⟩ | ex <;> rw [ex, ey]
  · show zfD32 (if d = 0 then _ else FP.Core.roundRatio FP.Core.b32 false c d (q - r))
    rw [if_neg hd]
    exact zf_rr32 _ _ _
  · exact Or.inl rfl
theorem zf_i232 {x : Int32} (hx : 0 ≤ x.toInt) : zf32 (FP.i2f x) := by
  refine zf_of32 (zf_enc32 ?_)
  show zfD32 (FP.Core.roundRatio FP.Core.b32 (decide (x.toInt < 0)) _ 1 0)
  rw [decide_eq_false (by omega)]
  exact zf_rr32 _ _ _
def zf64 (x : UInt64) : Prop := x.toNat ≤ 9218868437227405312
def zfn64 (x : UInt64) : Prop := ∃ c q, FP.Core.decode FP.Core.b64 x.toNat = .fin false c q ∧ c ≠ 0
theorem zf_T64 : FP.Core.Fmt.tails FP.Core.b64 = 4503599627370496 := rfl
theorem zf_X64 : FP.Core.Fmt.exps FP.Core.b64 = 2048 := rfl
theorem zf_q64 : FP.Core.Fmt.qmin FP.Core.b64 = -1074 := rfl
theorem zf_Q64 : FP.Core.Fmt.qmax FP.Core.b64 = 971 := rfl
theorem zf_P64 : 2 ^ FP.Core.Fmt.p FP.Core.b64 = 9007199254740992 := rfl
theorem zf_dec64 {n : Nat} (h : n ≤ 9218868437227405312) : (∃ c q, FP.Core.decode FP.Core.b64 n = .fin false c q) ∨ FP.Core.decode FP.Core.b64 n = .inf false := by
  have hS : FP.Core.fieldS FP.Core.b64 n = false := by
    unfold FP.Core.fieldS
    rw [zf_T64, zf_X64]
    have : n / 4503599627370496 / 2048 % 2 = 0 := by omega
    rw [this]
    rfl
  unfold FP.Core.decode
  rw [hS]
  by_cases hE : FP.Core.fieldE FP.Core.b64 n = FP.Core.Fmt.exps FP.Core.b64 - 1
  · rw [if_pos hE]
    have hT : FP.Core.fieldT FP.Core.b64 n = 0 := by
      unfold FP.Core.fieldE at hE
      unfold FP.Core.fieldT
      rw [zf_T64, zf_X64] at hE
      rw [zf_T64]
      omega
    rw [if_pos hT]
    exact Or.inr rfl
  · rw [if_neg hE]
    by_cases h0 : FP.Core.fieldE FP.Core.b64 n = 0
    · rw [if_pos h0]
      exact Or.inl ⟨_, _, rfl⟩
    · rw [if_neg h0]
      exact Or.inl ⟨_, _, rfl⟩
/-- data that an encoding of such a one stands for -/
def zfD64 (d : FP.Core.Datum) : Prop := d = .inf false ∨ ∃ c q, d = .fin false c q ∧ c < 9007199254740992 ∧ q ≤ 971
theorem zf_enc64 {d : FP.Core.Datum} (h : zfD64 d) : FP.Core.encode FP.Core.b64 d ≤ 9218868437227405312 := by
  rcases h with rfl | ⟨c, q, rfl, hc, hq⟩
  · exact Nat.le_of_ble_eq_true rfl
  · show (if c < FP.Core.Fmt.tails FP.Core.b64 then FP.Core.assemble FP.Core.b64 false 0 c else FP.Core.assemble FP.Core.b64 false ((q - FP.Core.Fmt.qmin FP.Core.b64).toNat + 1) (c - FP.Core.Fmt.tails FP.Core.b64)) ≤ 9218868437227405312
    unfold FP.Core.assemble
    rw [zf_T64, zf_X64, zf_q64, show false.toNat = 0 from rfl]
    split <;> omega
theorem zf_bound64 {c : Nat} {q : Int} (hc : c < 9007199254740992) : zfD64 (FP.Core.bound FP.Core.b64 false c q) := by
  unfold FP.Core.bound
  rw [zf_Q64]
  split
  · rename_i h
    exact Or.inr ⟨c, q, rfl, hc, h⟩
  · exact Or.inl rfl
theorem zf_settle64 {c : Nat} {q : Int} : zfD64 (FP.Core.settle FP.Core.b64 false c q) := by
  unfold FP.Core.settle
  rw [zf_P64]
  split
  · rename_i h
    exact zf_bound64 h
  · exact zf_bound64 (by rw [zf_T64]; omega)
theorem zf_rr64 (num den : Nat) (e : Int) : zfD64 (FP.Core.roundRatio FP.Core.b64 false num den e) := by
  unfold FP.Core.roundRatio
  split
  · exact Or.inr ⟨0, _, rfl, by omega, by rw [zf_q64]; omega⟩
  · unfold FP.Core.roundAt
    exact zf_settle64
theorem zf_of64 {n : Nat} (h : n ≤ 9218868437227405312) : zf64 (UInt64.ofNat n) := by
  show (UInt64.ofNat n).toNat ≤ _
  rw [UInt64.toNat_ofNat', Nat.mod_eq_of_lt (by omega)]
  exact h
theorem zf_ok64 {r : UInt64} (h : zf64 r) : vf_n64 r := by
  have h1 : r.toNat ≤ 9218868437227405312 := h
  show r &&& 9223372036854775807 ≤ 9218868437227405312
  rw [UInt64.le_iff_toNat_le, UInt64.toNat_and]
  show r.toNat &&& 9223372036854775807 ≤ 9218868437227405312
  rw [show (9223372036854775807 : Nat) = 2 ^ 63 - 1 from rfl, Nat.and_two_pow_sub_one_eq_mod, Nat.mod_eq_of_lt (by omega)]
  exact h1
theorem zf_add64 {x y : UInt64} (hx : zf64 x) (hy : zf64 y) : zf64 (FP.dadd x y) := by
  refine zf_of64 (zf_enc64 ?_)
  rcases zf_dec64 hx with ⟨c, q, ex⟩ | ex <;> rcases zf_dec64 hy with ⟨d, r, ey⟩ | ey <;> rw [ex, ey]
  · have hs : FP.Core.sumSign false false (FP.Core.sumUnits false c q false d r (min q r)) = false := by
      have h0 : 0 ≤ FP.Core.sumUnits false c q false d r (min q r) := by
        show (0 : Int) ≤ ((FP.Core.inUnits c q (min q r) : Nat) : Int) + ((FP.Core.inUnits d r (min q r) : Nat) : Int)
        omega
      unfold FP.Core.sumSign
      split
      · rfl
      · exact decide_eq_false (by omega)
    show zfD64 (FP.Core.roundRatio FP.Core.b64 (FP.Core.sumSign false false (FP.Core.sumUnits false c q false d r (min q r))) _ 1 _)
    rw [hs]
    exact zf_rr64 _ _ _
  · exact Or.inl rfl
  · exact Or.inl rfl
  · exact Or.inl rfl
theorem zf_div64 {x y : UInt64} (hx : zf64 x) (hy : zfn64 y) : zf64 (FP.ddiv x y) := by
  refine zf_of64 (zf_enc64 ?_)
  obtain ⟨d, r, ey, hd⟩ := hy
  rcases zf_dec64 hx with ⟨c, q, ex⟩ | ex <;> rw [ex, ey]
  · show zfD64 (if d = 0 then _ else FP.Core.roundRatio FP.Core.b64 false c d (q - r))
    rw [if_neg hd]
    exact zf_rr64 _ _ _
  · exact Or.inl rfl
theorem zf_i264 {x : Int32} (hx : 0 ≤ x.toInt) : zf64 (FP.i2d x) := by
  refine zf_of64 (zf_enc64 ?_)
  show zfD64 (FP.Core.roundRatio FP.Core.b64 (decide (x.toInt < 0)) _ 1 0)
  rw [decide_eq_false (by omega)]
  exact zf_rr64 _ _ _
theorem zf_nz64 {n : Nat} (h0 : 0 < n) (h : n < 9218868437227405312) : ∃ c q, FP.Core.decode FP.Core.b64 n = .fin false c q ∧ c ≠ 0 := by
  have hS : FP.Core.fieldS FP.Core.b64 n = false := by
    unfold FP.Core.fieldS
    rw [zf_T64, zf_X64]
    have : n / 4503599627370496 / 2048 % 2 = 0 := by omega
    rw [this]
    rfl
  unfold FP.Core.decode
  rw [hS]
  have hE : ¬ FP.Core.fieldE FP.Core.b64 n = FP.Core.Fmt.exps FP.Core.b64 - 1 := by
    unfold FP.Core.fieldE
    rw [zf_T64, zf_X64]
    omega
  rw [if_neg hE]
  by_cases h1 : FP.Core.fieldE FP.Core.b64 n = 0
  · rw [if_pos h1]
    refine ⟨_, _, rfl, ?_⟩
    unfold FP.Core.fieldE at h1
    unfold FP.Core.fieldT
    rw [zf_T64, zf_X64] at h1
    rw [zf_T64]
    omega
  · rw [if_neg h1]
    refine ⟨_, _, rfl, ?_⟩
    rw [zf_T64]
    omega
theorem zf_i2dn {x : Int32} (hx : 0 < x.toInt) : zfn64 (FP.i2d x) := by
  have hlt := Int32.toInt_lt x
  have hn : 0 < FP.Core.fromInt FP.Core.b64 x.toInt ∧ FP.Core.fromInt FP.Core.b64 x.toInt < 9218868437227405312 := by
    obtain ⟨k, hk⟩ : ∃ k : Nat, x.toInt.natAbs = k := ⟨_, rfl⟩
    have hk0 : 0 < k := by omega
    have hk1 : k < 2147483648 := by omega
    show 0 < FP.Core.encode FP.Core.b64 (FP.Core.roundRatio FP.Core.b64 (decide (x.toInt < 0)) x.toInt.natAbs 1 0) ∧ FP.Core.encode FP.Core.b64 (FP.Core.roundRatio FP.Core.b64 (decide (x.toInt < 0)) x.toInt.natAbs 1 0) < _
    rw [decide_eq_false (by omega), hk]
    unfold FP.Core.roundRatio
    rw [if_neg (by omega)]
    unfold FP.Core.roundAt
    have hl : FP.Core.leading k 1 ≤ 30 := by
      have h2 : k.log2 < 31 := (Nat.log2_lt (by omega)).mpr (by omega)
      have h3 : ((1 : Nat).log2 : Int) = 0 := rfl
      unfold FP.Core.leading
      simp only [h3]
      split <;> omega
    obtain ⟨q, hq⟩ : ∃ q, FP.Core.quantum FP.Core.b64 k 1 0 = q := ⟨_, rfl⟩
    have hq1 : q ≤ -22 := by
      rw [← hq]
      unfold FP.Core.quantum
      rw [zf_q64]
      show max (-1074 : Int) (FP.Core.leading k 1 + 0 - ((53 : Int) - 1)) ≤ -22
      omega
    rw [hq]
    have hu : FP.Core.unitsDen 1 0 q = 1 := by
      unfold FP.Core.unitsDen
      rw [show (q - 0).toNat = 0 by omega]
    have hm : 1 ≤ FP.Core.unitsNum k 0 q := by
      unfold FP.Core.unitsNum
      exact Nat.mul_pos hk0 (Nat.two_pow_pos _)
    rw [hu]
    have hr : FP.Core.nearest (FP.Core.unitsNum k 0 q) 1 = FP.Core.unitsNum k 0 q := by
      unfold FP.Core.nearest
      rw [Nat.mod_one, if_pos (by omega), Nat.div_one]
    rw [hr]
    generalize FP.Core.unitsNum k 0 q = c at hm
    have key : ∀ (c : Nat) (q : Int), 1 ≤ c → c < 9007199254740992 → q ≤ 0 → 0 < FP.Core.encode FP.Core.b64 (FP.Core.bound FP.Core.b64 false c q) ∧ FP.Core.encode FP.Core.b64 (FP.Core.bound FP.Core.b64 false c q) < 9218868437227405312 := by
      intro c q h1 h2 h3
      unfold FP.Core.bound
      rw [zf_Q64, if_pos (by omega)]
      show 0 < (if c < FP.Core.Fmt.tails FP.Core.b64 then FP.Core.assemble FP.Core.b64 false 0 c else FP.Core.assemble FP.Core.b64 false ((q - FP.Core.Fmt.qmin FP.Core.b64).toNat + 1) (c - FP.Core.Fmt.tails FP.Core.b64)) ∧ (if c < FP.Core.Fmt.tails FP.Core.b64 then FP.Core.assemble FP.Core.b64 false 0 c else FP.Core.assemble FP.Core.b64 false ((q - FP.Core.Fmt.qmin FP.Core.b64).toNat + 1) (c - FP.Core.Fmt.tails FP.Core.b64)) < _
      unfold FP.Core.assemble
      rw [zf_T64, zf_X64, zf_q64, show false.toNat = 0 from rfl]
      split <;> omega
    unfold FP.Core.settle
    rw [zf_P64]
    split
    · exact key c q hm (by omega) (by omega)
    · exact key _ _ (by rw [zf_T64]; omega) (by rw [zf_T64]; omega) (by omega)
  obtain ⟨c, q, e, h⟩ := zf_nz64 hn.1 hn.2
  refine ⟨c, q, ?_, h⟩
  show FP.Core.decode FP.Core.b64 (UInt64.ofNat (FP.Core.fromInt FP.Core.b64 x.toInt)).toNat = _
  rw [UInt64.toNat_ofNat', Nat.mod_eq_of_lt (by omega)]
  exact e
theorem zf_f2d {x : UInt32} (h : zf32 x) : zf64 (FP.f2d x) := by
  have hn : FP.Core.fIsNaN x = false := by
    show decide (FP.Core.decode FP.Core.b32 x.toNat = .nan) = false
    refine decide_eq_false ?_
    rcases zf_dec32 h with ⟨c, q, e⟩ | e <;> rw [e] <;> exact fun z => nomatch z
  unfold FP.f2d
  rw [hn, if_neg (by decide)]
  refine zf_of64 (zf_enc64 ?_)
  rcases zf_dec32 h with ⟨c, q, e⟩ | e <;> rw [e]
  · exact zf_rr64 _ _ _
  · exact Or.inl rfl
theorem zf_cmp64 {x : UInt64} (h : zf64 x) : FP.dcmp x x = some .eq := by
  show FP.Core.order (FP.Core.decode FP.Core.b64 x.toNat) (FP.Core.decode FP.Core.b64 x.toNat) = _
  have hc : ∀ a : Int, compare a a = .eq := fun a => by rw [Int.compare_eq_eq]
  rcases zf_dec64 h with ⟨c, q, e⟩ | e <;> rw [e]
  · show some (compare _ _) = _
    rw [hc]
  · show some (compare _ _) = _
    rw [hc]
/-- the loudness after a way of d -/
def zfl (d : Int) : UInt32 := if d = 1000 then FP.fconst0 else FP.fdiv FP.fconst1 (FP.fadd FP.fconst1 (FP.i2f (zI d)))
theorem zf_c0 : zf32 FP.fconst0 := Nat.le_of_ble_eq_true rfl
theorem zf_c1 : zf32 FP.fconst1 := Nat.le_of_ble_eq_true rfl
def zfdv (n : Nat) : Bool := match FP.Core.decode FP.Core.b32 (FP.fadd FP.fconst1 (FP.i2f (nI n))).toNat with
  | .fin false c _ => c != 0
  | _ => false
theorem zfdv_all : ∀ n, n < 1000 → zfdv n = true := by decide +kernel
theorem zf_dv {d : Int} (h0 : 0 ≤ d) (h1 : d < 1000) : zfn32 (FP.fadd FP.fconst1 (FP.i2f (zI d))) := by
  obtain ⟨n, rfl⟩ : ∃ n : Nat, d = n := ⟨d.toNat, by omega⟩
  rw [zI_nI]
  have h := zfdv_all n (by omega)
  unfold zfdv at h
  unfold zfn32
  split at h
  · rename_i c q e
    exact ⟨c, q, e, by simpa using h⟩
  · exact absurd h (by decide)
theorem zf_fl {d : Int} (h0 : 0 ≤ d) (h1 : d ≤ 1000) : zf32 (zfl d) := by
  unfold zfl
  split
  · exact zf_c0
  · exact zf_div32 zf_c1 (zf_dv h0 (by omega))
theorem zf_one : zfl 0 = FP.fconst1 := by decide +kernel
def zfcn (n : Nat) : Bool := match FP.Core.decode FP.Core.b32 (FP.i2f (nI n)).toNat with
  | .fin false c _ => c != 0
  | _ => false
theorem zfcn_all : ∀ n, n < 9 → 0 < n → zfcn n = true := by decide +kernel
theorem zf_cn {d : Int} (h0 : 0 < d) (h1 : d ≤ 8) : zfn32 (FP.i2f (zI d)) := by
  obtain ⟨n, rfl⟩ : ∃ n : Nat, d = n := ⟨d.toNat, by omega⟩
  rw [zI_nI]
  have h := zfcn_all n (by omega) (by omega)
  unfold zfcn at h
  unfold zfn32
  split at h
  · rename_i c q e
    exact ⟨c, q, e, by simpa using h⟩
  · exact absurd h (by decide)
