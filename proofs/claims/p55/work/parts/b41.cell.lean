/-! numbers of the script; shifts; what a change leaves -/
def zcl (xs : Nat → Int32) (L : Nat) (k : Int) : Int := if k < (L : Int) then sx xs k else 40503 * k
theorem zcl_R {xs : Nat → Int32} {L : Nat} {k : Int} (h : 0 ≤ k ∧ k ≤ 100) : zR (zcl xs L k) := by
  unfold zcl
  split
  · exact sx_R _ _
  · exact zR_mk (by omega) (by omega)
theorem zsh_dec : ∀ n : Fin 32, ((zI (n.val : Int)).toUInt32 &&& Int32.toUInt32 31).toNat % 32 = n.val := by decide +kernel
theorem zus_is (x : Int) (n : Nat) (h1 : 1 ≤ n) (hn : n < 32) : ((zI x).toUInt32 >>> ((zI (n : Int)).toUInt32 &&& Int32.toUInt32 31)).toInt32 = zI (x % 4294967296 / ((2 ^ n : Nat) : Int)) := by
  have hp : 2 ≤ 2 ^ n := by
    have := Nat.pow_le_pow_right (n := 2) (by decide) h1
    exact this
  have h0 : 0 ≤ x % 4294967296 := Int.emod_nonneg _ (by decide)
  have h4 : x % 4294967296 < 4294967296 := Int.emod_lt_of_pos _ (by decide)
  obtain ⟨m, hm⟩ : ∃ m : Nat, x % 4294967296 = (m : Int) := ⟨(x % 4294967296).toNat, by omega⟩
  have hdiv : x % 4294967296 / ((2 ^ n : Nat) : Int) = ((m / 2 ^ n : Nat) : Int) := by rw [hm]; rfl
  have hlt : m / 2 ^ n < 2147483648 := by
    have h5 : m / 2 ^ n ≤ m / 2 := Nat.div_le_div_left hp (by decide)
    omega
  rw [hdiv]
  obtain ⟨q, hq⟩ : ∃ q, m / 2 ^ n = q := ⟨_, rfl⟩
  rw [hq] at hlt ⊢
  apply Int32.toInt_inj.mp
  rw [zI_toInt (by omega) (by omega), ← Int32.toInt_toBitVec, UInt32.toBitVec_toInt32, BitVec.toInt_eq_toNat_bmod, UInt32.toNat_toBitVec, UInt32.toNat_shiftRight, zsh_dec ⟨n, hn⟩, Nat.shiftRight_eq_div_pow]
  have e1 : (zI x).toUInt32.toNat = m := by
    show (BitVec.ofInt 32 x).toNat = m
    rw [BitVec.toNat_ofInt]
    have : (x % ((2 ^ 32 : Nat) : Int)) = x % 4294967296 := rfl
    rw [this, hm]
    rfl
  rw [e1, hq, Int.bmod_def]
  have : (q : Int) % ((2 ^ 32 : Nat) : Int) = (q : Int) := Int.emod_eq_of_lt (by omega) (by omega)
  rw [this, if_pos (by omega)]
theorem zus_d {x d : Int} (n : Nat) (h0 : 0 ≤ x) (h1 : x < 2147483648) (hn : 1 ≤ n ∧ n < 32) (hd : ((2 ^ n : Nat) : Int) = d) : ((zI x).toUInt32 >>> ((zI (n : Int)).toUInt32 &&& Int32.toUInt32 31)).toInt32 = zI (x / d) := by
  rw [zus_is x n hn.1 hn.2, hd, Int.emod_eq_of_lt h0 (by omega)]
theorem zus_1 (x : Int) : ∃ c, ((zI x).toUInt32 >>> ((zI 1).toUInt32 &&& Int32.toUInt32 31)).toInt32 = zI c ∧ 0 ≤ c ∧ c < 2147483648 := by
  refine ⟨_, zus_is x 1 (by decide) (by decide), ?_, ?_⟩
  · have h0 : 0 ≤ x % 4294967296 := Int.emod_nonneg _ (by decide)
    exact Int.ediv_nonneg h0 (by decide)
  · have h4 : x % 4294967296 < 4294967296 := Int.emod_lt_of_pos _ (by decide)
    show x % 4294967296 / 2 < 2147483648
    omega
set_option maxHeartbeats 4000000 in
theorem lw_cell (l : Launch) (g : zG) (zX : va_W) (ad : Int → Nat) (M F : zMem) (b L : Nat) (xs : Nat → Int32) (hL : L ≤ 2048) (x0 : Int) (hx0 : 0 ≤ x0 ∧ x0 ≤ 100) : zMv l yL_cell cL_cell 2 (some .int) 0 0 0 g (0, 398, zX) ad (zSc b L xs) [.ref b, .int (zI x0)] M F (zPi (fun k M' F' => k = zcl xs L x0 ∧ M' = M ∧ F' = F)) := by
  refine zMv.of "DrumWarrenLaw" rfl (by decide +kernel) (Nat.le_of_ble_eq_true rfl) (fun {p e s m args below meth c ls} C0 Wd hl hret hlk hin hXk hX => ?_)
  have hl : lv_has ls 2 [(0, .ref b), (1, .int (zI x0))] := hl
  obtain ⟨hX, hbl, hbA⟩ := hX
  refine z_iload_n C0 hl 1 rfl dL_cell_0 ?_
  refine z_aload_n C0 hl 0 rfl dL_cell_1 ?_
  refine va_slen C0.1.1 C0.1.2.1 hX hbl hbA Wd.1.2.2 dL_cell_2 ?_
  rw [show Int32.ofNat L = zI (L : Int) from (zI_nI L).symm]
  refine z_icmp_ge C0 (tgt := 12) (zR_mk (by omega) (by omega)) (zR_mk (by omega) (by omega)) dL_cell_3 (by decide) (fun h => ?_) (fun h => ?_)
  · refine z_ldc C0 zk_373 (v := 40503) (by decide) dL_cell_12 ?_
    refine z_iload_n C0 hl 1 rfl dL_cell_14 ?_
    refine z_imul C0 dL_cell_15 ?_
    exact z_iret C0 Wd hret hlk (zR_mk (by omega) (by omega)) ⟨(if_neg (by omega)).symm, rfl, rfl⟩ dL_cell_16
  · refine z_aload_n C0 hl 0 rfl dL_cell_6 ?_
    refine z_iload_n C0 hl 1 rfl dL_cell_7 ?_
    refine z_sld C0 Wd hX hbl hbA (by omega) (by omega) hL dL_cell_8 ?_
    refine z_goto C0 (tgt := 16) dL_cell_9 (by decide) ?_
    exact z_iret C0 Wd hret hlk (sx_R _ _) ⟨(if_pos (by omega)).symm, rfl, rfl⟩ dL_cell_16
theorem zDe_6 {t p : Int} {V : Int → Int} (hI : zIV t V) (hp : 0 ≤ p ∧ p < V 2) : V 6 ≤ zDe p V 6 := by
  obtain ⟨m0, m1, m2, -⟩ := hI.2.2.2.2.2.2.1 p hp.1 hp.2
  unfold zDe
  split
  · rw [zup_same]; omega
  · rw [zup_ne (by omega), zup_ne (by omega), zup_ne (by omega), zup_ne (by omega)]; omega
abbrev zfC : Int → (Int → Int) → (Int → Int) := fun p W => if W (96 + 47 * p + 4) = 100 ∧ W (96 + 47 * p + 6) = 5 then zDe p W else W
theorem zfC_6 {t : Int} {B : Int → Int} (hI : zIV t B) : ∀ k : Nat, (k : Int) ≤ B 2 → B 6 ≤ zfold zfC k B 6
  | 0, _ => Int.le_refl _
  | k + 1, hk => by
    have ih := zfC_6 hI k (by omega)
    obtain ⟨c1, c2, -⟩ := zTkC_keep hI k (by omega)
    have c1 : zIV (t + k) (zfold zfC k B) := c1
    have e2 : zfold zfC k B 2 = B 2 := c2 2 (by decide) (by decide) (by decide)
    have hs : zfold zfC (k + 1) B = if zfold zfC k B (96 + 47 * (k : Int) + 4) = 100 ∧ zfold zfC k B (96 + 47 * (k : Int) + 6) = 5 then zDe (k : Int) (zfold zfC k B) else zfold zfC k B := rfl
    rw [hs]
    generalize zfold zfC k B = W at *
    split
    · exact Int.le_trans ih (zDe_6 c1 ⟨by omega, by omega⟩)
    · exact ih
theorem zTkD_6 (C : Int → Int) : zTkD C 6 = C 6 := by
  unfold zTkD
  have key : ∀ k : Nat, zfold (fun c W => zup W (472 + 128 * c + (W 4 - 20 - 1) % 128) 0) k (zup C 4 (C 4 + 1)) 6 = C 6 := by
    intro k
    refine zfold_ind (fun (_ : Nat) (W : Int → Int) => W 6 = C 6) (zup_ne (by decide)) (fun q W hq a => ?_)
    have hm := Int.emod_nonneg (W 4 - 20 - 1) (show (128 : Int) ≠ 0 by decide)
    rw [zup_ne (by omega)]
    exact a
  exact key 8
theorem zTick_6 {t : Int} {V : Int → Int} (h : zIV t V) (hd : zTD V) : V 6 ≤ zTick V 6 := by
  obtain ⟨a1, a2, a3⟩ := zBegs_keep h hd
  obtain ⟨b1, b2, -⟩ := zTkB_keep a1 a2 (zBegs V 2).toNat (by have := a1.2.2.1; omega)
  have hB : zTkB (zBegs V) 6 = zBegs V 6 := b2 6 (by decide) (by decide)
  have hA := a3 6 (by decide)
  have b1' : zIV (t + (zBegs V 2).toNat) (zTkB (zBegs V)) := b1
  show V 6 ≤ zTkD (zTkC (zTkB (zBegs V))) 6
  rw [zTkD_6, ← hA, ← hB]
  exact zfC_6 b1' _ (by have := b1'.2.2.1; omega)
theorem zTks_6 {t : Int} {V : Int → Int} (h : zIV t V) (hd : zTD V) (k : Nat) : V 6 ≤ zTks k V 6 := by
  induction k with
  | zero => exact Int.le_refl _
  | succ k ih =>
    obtain ⟨a, b, -, -⟩ := zTks_keep h hd k
    exact Int.le_trans ih (zTick_6 a b)
section DQ
variable {t many : Int} {V : Int → Int} {U : Int → Int → Int} {M F M0 M' F' : zMem} {k : Int}
theorem dq_any {t2 : Int} {o : zO} (h : zChg t t2 many V U M0 o k M' F') (ht : t ≤ t2) : ∃ (m' : Int) (V' : Int → Int) (U' : Int → Int → Int), zLw t2 m' V' U' M' F' ∧ ((o.1 = 0 ∧ V' = o.2.2 ∧ k = o.2.1) ∨ (0 < o.1 ∧ V' = V ∧ k = -o.1)) ∧ (o.2.2 3 ≤ V 3 + 1 → V' 3 ≤ V 3 + 1) := by
  rcases h.1 with ⟨h1, h2, h3⟩ | ⟨h1, h2, h3⟩
  · exact ⟨_, _, _, h3, Or.inl ⟨h1, rfl, h2⟩, fun q => q⟩
  · exact ⟨_, _, _, h3.up ht, Or.inr ⟨h1, rfl, h2⟩, fun _ => by omega⟩
theorem dq_AC (hL : zLw t many V U M F) (h : zChg t t many V U M0 (zdAC V) k M' F') (h8 : V 0 < 8) : ∃ (m' : Int) (V' : Int → Int) (U' : Int → Int → Int), zLw t m' V' U' M' F' ∧ V' 0 = V 0 + 1 ∧ V' 1 = V 1 ∧ k = V 0 ∧ V' 3 ≤ V 3 + 1 := by
  obtain ⟨m', V', U', h1, h2, h39⟩ := dq_any h (Int.le_refl t)
  replace h39 := h39 pd_AC.2.2.2
  unfold zdAC at h2
  rw [if_neg (by omega)] at h2
  rcases h2 with ⟨_, rfl, rfl⟩ | ⟨h2, _⟩
  · exact ⟨_, _, _, h1, by show zup V 0 (V 0 + 1) 0 = V 0 + 1; exact zup_same _ _ _, by show zup V 0 (V 0 + 1) 1 = V 1; exact zup_ne (by decide), by show V 0 + 1 - 1 = V 0; omega, h39⟩
  · exact absurd h2 (by show ¬ (0 : Int) < 0; decide)
theorem dq_AT {a b d : Int} (hL : zLw t many V U M F) (h : zChg t t many V U M0 (zdAT a b d V) k M' F') (ha : zisC V a) (hb : zisC V b) : ∃ (m' : Int) (V' : Int → Int) (U' : Int → Int → Int), zLw t m' V' U' M' F' ∧ V' 0 = V 0 ∧ V' 1 = V 1 ∧ k ≠ -1 ∧ V' 3 ≤ V 3 + 1 := by
  obtain ⟨m', V', U', h1, h2, h39⟩ := dq_any h (Int.le_refl t)
  replace h39 := h39 pd_AT.2.2.2
  have h8 := hL.v0
  obtain ⟨a0, a1⟩ := ha
  obtain ⟨b0, b1⟩ := hb
  unfold zdAT at h2
  rw [if_neg (fun z => z ⟨⟨a0, a1⟩, b0, b1⟩)] at h2
  refine ⟨m', V', U', h1, ?_⟩
  split at h2
  · rcases h2 with ⟨h2, -⟩ | ⟨-, rfl, rfl⟩
    · exact absurd h2 (by simp)
    · exact ⟨rfl, rfl, by simp, h39⟩
  · split at h2
    · rcases h2 with ⟨h2, -⟩ | ⟨-, rfl, rfl⟩
      · exact absurd h2 (by simp)
      · exact ⟨rfl, rfl, by simp, h39⟩
    · rcases h2 with ⟨-, rfl, rfl⟩ | ⟨h2, -⟩
      · refine ⟨?_, ?_, ?_, h39⟩
        · show zup (zup V (8 + 8 * a + b) d) (8 + 8 * b + a) d 0 = V 0
          rw [zup_ne (by omega), zup_ne (by omega)]
        · show zup (zup V (8 + 8 * a + b) d) (8 + 8 * b + a) d 1 = V 1
          rw [zup_ne (by omega), zup_ne (by omega)]
        · have := zTu_bd (zup (zup V (8 + 8 * a + b) d) (8 + 8 * b + a) d)
          show zTu (zup (zup V (8 + 8 * a + b) d) (8 + 8 * b + a) d) ≠ -1
          omega
      · exact absurd h2 (by show ¬ (0 : Int) < 0; decide)
theorem dq_AH {c : Int} (hL : zLw t many V U M F) (h : zChg t t many V U M0 (zdAH c V) k M' F') (hc : zisC V c) (h6 : V 1 < 6) : ∃ (m' : Int) (V' : Int → Int) (U' : Int → Int → Int), zLw t m' V' U' M' F' ∧ V' 0 = V 0 ∧ V' 1 = V 1 + 1 ∧ k = V 1 ∧ V' 3 ≤ V 3 + 1 := by
  obtain ⟨m', V', U', h1, h2, h39⟩ := dq_any h (Int.le_refl t)
  replace h39 := h39 (pd_AH hL.v1.1).2.2.2
  have h8 := hL.v1
  unfold zdAH at h2
  rw [if_neg (fun z => z hc), if_neg (by omega)] at h2
  rcases h2 with ⟨-, rfl, rfl⟩ | ⟨h2, -⟩
  · refine ⟨_, _, _, h1, ?_, by show zup (zup (zup (zup (zup V (72 + 4 * V 1) c) (72 + 4 * V 1 + 1) 1) (72 + 4 * V 1 + 2) 0) (72 + 4 * V 1 + 3) 0) 1 (V 1 + 1) 1 = V 1 + 1; exact zup_same _ _ _, rfl, h39⟩
    show zup (zup (zup (zup (zup V (72 + 4 * V 1) c) (72 + 4 * V 1 + 1) 1) (72 + 4 * V 1 + 2) 0) (72 + 4 * V 1 + 3) 0) 1 (V 1 + 1) 0 = V 0
    rw [zup_ne (by decide), zup_ne (by omega), zup_ne (by omega), zup_ne (by omega), zup_ne (by omega)]
  · exact absurd h2 (by show ¬ (0 : Int) < 0; decide)
theorem dq_Mv {x c : Int} (hL : zLw t many V U M F) (h : zChg t t many V U M0 (zdMv x c V) k M' F') (hx : zisH V x) (hc : zisC V c) : ∃ (m' : Int) (V' : Int → Int) (U' : Int → Int → Int), zLw t m' V' U' M' F' ∧ V' 0 = V 0 ∧ V' 1 = V 1 ∧ k ≠ -1 ∧ V' 3 ≤ V 3 + 1 := by
  obtain ⟨m', V', U', h1, h2, h39⟩ := dq_any h (Int.le_refl t)
  replace h39 := h39 pd_Mv.2.2.2
  have h8 := hL.v1
  have hb := (hL.iv.2.2.2.2.2.1 x hx.1 hx.2).1.1
  obtain ⟨x0, x1⟩ := hx
  unfold zdMv at h2
  rw [if_neg (fun z => z ⟨⟨x0, x1⟩, hc⟩)] at h2
  refine ⟨m', V', U', h1, ?_⟩
  split at h2
  · rcases h2 with ⟨h2, -⟩ | ⟨-, rfl, rfl⟩
    · exact absurd h2 (by simp)
    · exact ⟨rfl, rfl, by simp, h39⟩
  · rcases h2 with ⟨-, rfl, rfl⟩ | ⟨h2, -⟩
    · exact ⟨by show zup V (72 + 4 * x) c 0 = V 0; exact zup_ne (by omega), by show zup V (72 + 4 * x) c 1 = V 1; exact zup_ne (by omega), by show V (72 + 4 * x + 0) ≠ -1; omega, h39⟩
    · exact absurd h2 (by show ¬ (0 : Int) < 0; decide)
theorem dq_Li {x : Int} {P : Prop} [Decidable P] (hL : zLw t many V U M F) (h : zChg t t many V U M0 (zdLi x P V) k M' F') (hx : zisH V x) : ∃ (m' : Int) (V' : Int → Int) (U' : Int → Int → Int), zLw t m' V' U' M' F' ∧ V' 0 = V 0 ∧ V' 1 = V 1 ∧ k ≠ -1 ∧ V' 3 ≤ V 3 + 1 := by
  obtain ⟨m', V', U', h1, h2, h39⟩ := dq_any h (Int.le_refl t)
  replace h39 := h39 pd_Li.2.2.2
  have h8 := hL.v1
  have hb := (hL.iv.2.2.2.2.2.1 x hx.1 hx.2).2.1
  obtain ⟨x0, x1⟩ := hx
  unfold zdLi at h2
  rw [if_neg (fun z => z ⟨x0, x1⟩)] at h2
  rcases h2 with ⟨-, rfl, rfl⟩ | ⟨h2, -⟩
  · exact ⟨_, _, _, h1, by show zup V (72 + 4 * x + 1) (zb P) 0 = V 0; exact zup_ne (by omega), by show zup V (72 + 4 * x + 1) (zb P) 1 = V 1; exact zup_ne (by omega), by show V (72 + 4 * x + 1) ≠ -1; omega, h39⟩
  · exact absurd h2 (by show ¬ (0 : Int) < 0; decide)
theorem dq_Say {a r n : Int} (hL : zLw t many V U M F) (h : zChg t (t + 1) many V U M0 (zdSay a r n V) k M' F') (ha : zisH V a) (hr : zisH V r) : ∃ (m' : Int) (V' : Int → Int) (U' : Int → Int → Int), zLw (t + 1) m' V' U' M' F' ∧ V' 0 = V 0 ∧ V' 1 = V 1 ∧ k ≠ -1 ∧ V' 3 ≤ V 3 + 1 := by
  obtain ⟨m', V', U', h1, h2, h39⟩ := dq_any h (by omega)
  replace h39 := h39 pd_Say.2.2.2
  have h3 := hL.v3
  have h4 := hL.v2
  unfold zdSay at h2
  rw [if_neg (fun z => z ⟨ha, hr⟩)] at h2
  refine ⟨m', V', U', h1, ?_⟩
  split at h2
  · rcases h2 with ⟨h2, -⟩ | ⟨-, rfl, rfl⟩
    · exact absurd h2 (by simp)
    · exact ⟨rfl, rfl, by simp, h39⟩
  · split at h2
    · rcases h2 with ⟨h2, -⟩ | ⟨-, rfl, rfl⟩
      · exact absurd h2 (by simp)
      · exact ⟨rfl, rfl, by simp, h39⟩
    · rcases h2 with ⟨-, rfl, rfl⟩ | ⟨h2, -⟩
      · exact ⟨by show zdSayR a r n V 0 = V 0; exact zSay_o h4.1 (by omega), by show zdSayR a r n V 1 = V 1; exact zSay_o h4.1 (by omega), by show V 3 + 1 - 1 ≠ -1; omega, h39⟩
      · exact absurd h2 (by show ¬ (0 : Int) < 0; decide)
theorem dq_PT {n : Int} (hL : zLw t many V U M F) (h : zChg t (t + 17 * n) many V U M0 (zdPT n V) k M' F') (h0 : 1 ≤ n) (h9 : n ≤ 40) : ∃ (m' : Int) (V' : Int → Int) (U' : Int → Int → Int), zLw (t + 17 * n) m' V' U' M' F' ∧ V' 0 = V 0 ∧ V' 1 = V 1 ∧ k ≠ -1 ∧ V' 3 ≤ V 3 + 1 := by
  obtain ⟨m', V', U', h1, h2, h39⟩ := dq_any h (by omega)
  replace h39 := h39 (pd_PT hL.gd).2.2.2
  unfold zdPT at h2
  rw [if_neg (by omega)] at h2
  rcases h2 with ⟨-, rfl, rfl⟩ | ⟨h2, -⟩
  · have q := (zTks_keep hL.iv hL.td n.toNat).2.2.1
    have q6 := zTks_6 hL.iv hL.td n.toNat
    exact ⟨_, _, _, h1, q 0 (by decide), q 1 (by decide), by show zTks n.toNat V 6 - V 6 ≠ -1; omega, h39⟩
  · exact absurd h2 (by show ¬ (0 : Int) < 0; decide)
end DQ
