/-! the nearest, step by step -/
theorem zI_shl1 {k : Int} (hk : zc8 k) : zI 1 <<< (zI k &&& 31) = zI (2 ^ k.toNat) := by
  have h1 : (1 : Int) * 2 ^ k.toNat < 2147483648 := by
    obtain ⟨m, rfl⟩ : ∃ n : Nat, k = n := ⟨k.toNat, by have := hk.1; omega⟩
    have hm : m ≤ 7 := by have := hk.2; omega
    have hp2 : 2 ^ m ≤ 128 := Nat.pow_le_pow_right (by decide) hm
    have e : (2 : Int) ^ ((m : Int)).toNat = ((2 ^ m : Nat) : Int) := by
      rw [Int.toNat_natCast]
      norm_cast
    rw [e]
    omega
  rw [zI_shl (by decide) hk.1 (by have := hk.2; omega) h1, Int.one_mul]
theorem zNe_step {r : Int → Int} {f u2 u3 w2 w3 : Int} {k : Nat} (h : zNe r f k = (u2, u3)) (hs : (zbi f k = 0 ∧ r k < u3 ∧ w2 = k ∧ w3 = r k) ∨ (¬ (zbi f k = 0 ∧ r k < u3) ∧ w2 = u2 ∧ w3 = u3)) : zNe r f (k + 1) = (w2, w3) := by
  show (if zbi f k = 0 ∧ r k < (zNe r f k).2 then ((k : Int), r k) else zNe r f k) = _
  rw [h]
  rcases hs with ⟨a, b, c, d⟩ | ⟨a, c, d⟩
  · rw [if_pos ⟨a, b⟩, c, d]
  · rw [if_neg a, c, d]
theorem zCo_step {V W r r' : Int → Int} {c : Int} {k : Nat} (hr : r = zCo V c k W) (h : (¬ V (8 + 8 * c + k) = 0 ∧ r c + V (8 + 8 * c + k) < r k ∧ r' = zup r k (r c + V (8 + 8 * c + k))) ∨ (¬ (¬ V (8 + 8 * c + k) = 0 ∧ r c + V (8 + 8 * c + k) < r k) ∧ r' = r)) : r' = zCo V c (k + 1) W := by
  show r' = if ¬ V (8 + 8 * c + k) = 0 ∧ zCo V c k W c + V (8 + 8 * c + k) < zCo V c k W k then zup (zCo V c k W) k (zCo V c k W c + V (8 + 8 * c + k)) else zCo V c k W
  rw [← hr]
  rcases h with ⟨a, b, e⟩ | ⟨a, e⟩
  · rw [if_pos ⟨a, b⟩, e]
  · rw [if_neg a, e]
theorem zCo_bd {V W : Int → Int} {c : Int} (hc : zc8 c) (hw : ∀ v, zc8 v → 0 ≤ V (8 + 8 * c + v)) (h : ∀ v, zc8 v → 0 ≤ W v ∧ W v ≤ 1000) : ∀ n : Nat, n ≤ 8 → ∀ v, zc8 v → 0 ≤ zCo V c n W v ∧ zCo V c n W v ≤ 1000 := by
  intro n hn v hv
  rw [zCo_is hc (hw c hc) n hn v hv]
  have b1 := h v hv
  have b2 := h c hc
  have b3 := hw v hv
  split <;> omega
theorem zDjW_step {V W r r' : Int → Int} {f f' u : Int} {k : Nat} (h : zDjW V W k = (r, f)) (hu : u = (zNe r f 8).1) (hs : (u = -1 ∧ r' = r ∧ f' = f) ∨ (¬ u = -1 ∧ r' = zCo V u 8 r ∧ f' = f + 2 ^ u.toNat)) : zDjW V W (k + 1) = (r', f') := by
  show zDs V (zDjW V W k) = _
  rw [h]
  unfold zDs
  dsimp only
  rw [← hu]
  rcases hs with ⟨a, b, c⟩ | ⟨a, b, c⟩
  · rw [if_pos a, b, c]
  · rw [if_neg a, b, c]
theorem zRB_w {b : Int} {V r : Int → Int} {M : zMem} (h : zRB b V M) : zRB b V (zrow M (b + 4) r) := by
  refine ⟨?_, fun i h0 h1 => ?_, fun a c ha hc => ?_⟩
  · rw [zrow_ne (by omega)]
    exact h.1
  · rw [zrow_ne (by omega)]
    exact h.2.1 i h0 h1
  · rw [zrow_ne (by omega)]
    exact h.2.2 a c ha hc
theorem zRt_join {b a c d : Int} {V : Int → Int} {M : zMem} (h : zRt b V M) (ha : zc8 a) (hc : zc8 c) : zRt b (zup (zup V (8 + 8 * a + c) d) (8 + 8 * c + a) d) (zu (zu M (b + 2) (a * 8 + c) d) (b + 2) (c * 8 + a) d) := fun i i0 i1 => by
  have a0 := ha.1
  have a1 := ha.2
  have b0 := hc.1
  have b1 := hc.2
  by_cases e1 : i = c * 8 + a
  · rw [zup_at (by omega), zu_at (by omega) (by omega)]
  · rw [zup_ne (by omega), zu_ne (by omega)]
    by_cases e2 : i = a * 8 + c
    · rw [zup_at (by omega), zu_at (by omega) (by omega)]
    · rw [zup_ne (by omega), zu_ne (by omega)]
      exact h i i0 i1
/-- tunnels join chambers that are there, both ways round -/
def zTn (V : Int → Int) : Prop := (∀ a c, zc8 a → zc8 c → V (8 + 8 * a + c) = V (8 + 8 * c + a)) ∧ ∀ a c, zc8 a → zc8 c → (V 0 ≤ a ∨ V 0 ≤ c ∨ a = c) → V (8 + 8 * a + c) = 0
