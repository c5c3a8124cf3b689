/-! the places of a State -/
theorem zkB0 {b : Int} (hb : zB b) : zkd b = 7 := by have h := zkd_B hb (show (0 : Int) ≤ 0 by decide) (by decide); rw [show b + 0 = b by omega] at h; rw [h]; decide
theorem znB0 {b : Int} (hb : zB b) : 0 ≤ b ∧ b < ((398 : Nat) : Int) := by have := zB_bd hb; omega
theorem zkB1 {b : Int} (hb : zB b) : zkd (b + 1) = 1 := by have h := zkd_B hb (show (0 : Int) ≤ 1 by decide) (by decide); rw [show b + 1 = (b + 1) by omega] at h; rw [h]; decide
theorem znB1 {b : Int} (hb : zB b) : 0 ≤ (b + 1) ∧ (b + 1) < ((398 : Nat) : Int) := by have := zB_bd hb; omega
theorem zkB2 {b : Int} (hb : zB b) : zkd (b + 2) = 13 := by have h := zkd_B hb (show (0 : Int) ≤ 2 by decide) (by decide); rw [show b + 2 = (b + 2) by omega] at h; rw [h]; decide
theorem zlB2 {b : Int} (hb : zB b) : zln (b + 2) = 64 := by have h := zln_B hb (show (0 : Int) ≤ 2 by decide) (by decide); rw [show b + 2 = (b + 2) by omega] at h; rw [h]; decide
theorem znB2 {b : Int} (hb : zB b) : 0 ≤ (b + 2) ∧ (b + 2) < ((398 : Nat) : Int) := by have := zB_bd hb; omega
theorem zkB3 {b : Int} (hb : zB b) : zkd (b + 3) = 13 := by have h := zkd_B hb (show (0 : Int) ≤ 3 by decide) (by decide); rw [show b + 3 = (b + 3) by omega] at h; rw [h]; decide
theorem zlB3 {b : Int} (hb : zB b) : zln (b + 3) = 64 := by have h := zln_B hb (show (0 : Int) ≤ 3 by decide) (by decide); rw [show b + 3 = (b + 3) by omega] at h; rw [h]; decide
theorem znB3 {b : Int} (hb : zB b) : 0 ≤ (b + 3) ∧ (b + 3) < ((398 : Nat) : Int) := by have := zB_bd hb; omega
theorem zkB4 {b : Int} (hb : zB b) : zkd (b + 4) = 13 := by have h := zkd_B hb (show (0 : Int) ≤ 4 by decide) (by decide); rw [show b + 4 = (b + 4) by omega] at h; rw [h]; decide
theorem zlB4 {b : Int} (hb : zB b) : zln (b + 4) = 8 := by have h := zln_B hb (show (0 : Int) ≤ 4 by decide) (by decide); rw [show b + 4 = (b + 4) by omega] at h; rw [h]; decide
theorem znB4 {b : Int} (hb : zB b) : 0 ≤ (b + 4) ∧ (b + 4) < ((398 : Nat) : Int) := by have := zB_bd hb; omega
theorem zkB5 {b : Int} (hb : zB b) : zkd (b + 5) = 15 := by have h := zkd_B hb (show (0 : Int) ≤ 5 by decide) (by decide); rw [show b + 5 = (b + 5) by omega] at h; rw [h]; decide
theorem zlB5 {b : Int} (hb : zB b) : zln (b + 5) = 6 := by have h := zln_B hb (show (0 : Int) ≤ 5 by decide) (by decide); rw [show b + 5 = (b + 5) by omega] at h; rw [h]; decide
theorem znB5 {b : Int} (hb : zB b) : 0 ≤ (b + 5) ∧ (b + 5) < ((398 : Nat) : Int) := by have := zB_bd hb; omega
theorem zkB6 {b : Int} (hb : zB b) : zkd (b + 6) = 16 := by have h := zkd_B hb (show (0 : Int) ≤ 6 by decide) (by decide); rw [show b + 6 = (b + 6) by omega] at h; rw [h]; decide
theorem zlB6 {b : Int} (hb : zB b) : zln (b + 6) = 8 := by have h := zln_B hb (show (0 : Int) ≤ 6 by decide) (by decide); rw [show b + 6 = (b + 6) by omega] at h; rw [h]; decide
theorem znB6 {b : Int} (hb : zB b) : 0 ≤ (b + 6) ∧ (b + 6) < ((398 : Nat) : Int) := by have := zB_bd hb; omega
theorem zkB7 {b : Int} (hb : zB b) : zkd (b + 7) = 0 := by have h := zkd_B hb (show (0 : Int) ≤ 7 by decide) (by decide); rw [show b + 7 = (b + 7) by omega] at h; rw [h]; decide
theorem znB7 {b : Int} (hb : zB b) : 0 ≤ (b + 7) ∧ (b + 7) < ((398 : Nat) : Int) := by have := zB_bd hb; omega
theorem zkB8 {b : Int} (hb : zB b) : zkd (b + 8) = 13 := by have h := zkd_B hb (show (0 : Int) ≤ 8 by decide) (by decide); rw [show b + 8 = (b + 8) by omega] at h; rw [h]; decide
theorem zlB8 {b : Int} (hb : zB b) : zln (b + 8) = 1024 := by have h := zln_B hb (show (0 : Int) ≤ 8 by decide) (by decide); rw [show b + 8 = (b + 8) by omega] at h; rw [h]; decide
theorem znB8 {b : Int} (hb : zB b) : 0 ≤ (b + 8) ∧ (b + 8) < ((398 : Nat) : Int) := by have := zB_bd hb; omega
theorem zkB9 {b : Int} (hb : zB b) : zkd (b + 9) = 4 := by have h := zkd_B hb (show (0 : Int) ≤ 9 by decide) (by decide); rw [show b + 9 = (b + 9) by omega] at h; rw [h]; decide
theorem znB9 {b : Int} (hb : zB b) : 0 ≤ (b + 9) ∧ (b + 9) < ((398 : Nat) : Int) := by have := zB_bd hb; omega
theorem zkB10 {b : Int} (hb : zB b) : zkd (b + 10) = 4 := by have h := zkd_B hb (show (0 : Int) ≤ 10 by decide) (by decide); rw [show b + 10 = (b + 10) by omega] at h; rw [h]; decide
theorem znB10 {b : Int} (hb : zB b) : 0 ≤ (b + 10) ∧ (b + 10) < ((398 : Nat) : Int) := by have := zB_bd hb; omega
theorem zkB11 {b : Int} (hb : zB b) : zkd (b + 11) = 4 := by have h := zkd_B hb (show (0 : Int) ≤ 11 by decide) (by decide); rw [show b + 11 = (b + 11) by omega] at h; rw [h]; decide
theorem znB11 {b : Int} (hb : zB b) : 0 ≤ (b + 11) ∧ (b + 11) < ((398 : Nat) : Int) := by have := zB_bd hb; omega
theorem zkB12 {b : Int} (hb : zB b) : zkd (b + 12) = 4 := by have h := zkd_B hb (show (0 : Int) ≤ 12 by decide) (by decide); rw [show b + 12 = (b + 12) by omega] at h; rw [h]; decide
theorem znB12 {b : Int} (hb : zB b) : 0 ≤ (b + 12) ∧ (b + 12) < ((398 : Nat) : Int) := by have := zB_bd hb; omega
theorem zkB13 {b : Int} (hb : zB b) : zkd (b + 13) = 4 := by have h := zkd_B hb (show (0 : Int) ≤ 13 by decide) (by decide); rw [show b + 13 = (b + 13) by omega] at h; rw [h]; decide
theorem znB13 {b : Int} (hb : zB b) : 0 ≤ (b + 13) ∧ (b + 13) < ((398 : Nat) : Int) := by have := zB_bd hb; omega
theorem zkB14 {b : Int} (hb : zB b) : zkd (b + 14) = 4 := by have h := zkd_B hb (show (0 : Int) ≤ 14 by decide) (by decide); rw [show b + 14 = (b + 14) by omega] at h; rw [h]; decide
theorem znB14 {b : Int} (hb : zB b) : 0 ≤ (b + 14) ∧ (b + 14) < ((398 : Nat) : Int) := by have := zB_bd hb; omega
theorem zkB15 {b : Int} (hb : zB b) : zkd (b + 15) = 6 := by have h := zkd_B hb (show (0 : Int) ≤ 15 by decide) (by decide); rw [show b + 15 = (b + 15) by omega] at h; rw [h]; decide
theorem znB15 {b : Int} (hb : zB b) : 0 ≤ (b + 15) ∧ (b + 15) < ((398 : Nat) : Int) := by have := zB_bd hb; omega
theorem zkB16 {b : Int} (hb : zB b) : zkd (b + 16) = 13 := by have h := zkd_B hb (show (0 : Int) ≤ 16 by decide) (by decide); rw [show b + 16 = (b + 16) by omega] at h; rw [h]; decide
theorem zlB16 {b : Int} (hb : zB b) : zln (b + 16) = 40 := by have h := zln_B hb (show (0 : Int) ≤ 16 by decide) (by decide); rw [show b + 16 = (b + 16) by omega] at h; rw [h]; decide
theorem znB16 {b : Int} (hb : zB b) : 0 ≤ (b + 16) ∧ (b + 16) < ((398 : Nat) : Int) := by have := zB_bd hb; omega
theorem zkB17 {b : Int} (hb : zB b) : zkd (b + 17) = 6 := by have h := zkd_B hb (show (0 : Int) ≤ 17 by decide) (by decide); rw [show b + 17 = (b + 17) by omega] at h; rw [h]; decide
theorem znB17 {b : Int} (hb : zB b) : 0 ≤ (b + 17) ∧ (b + 17) < ((398 : Nat) : Int) := by have := zB_bd hb; omega
theorem zkB18 {b : Int} (hb : zB b) : zkd (b + 18) = 13 := by have h := zkd_B hb (show (0 : Int) ≤ 18 by decide) (by decide); rw [show b + 18 = (b + 18) by omega] at h; rw [h]; decide
theorem zlB18 {b : Int} (hb : zB b) : zln (b + 18) = 40 := by have h := zln_B hb (show (0 : Int) ≤ 18 by decide) (by decide); rw [show b + 18 = (b + 18) by omega] at h; rw [h]; decide
theorem znB18 {b : Int} (hb : zB b) : 0 ≤ (b + 18) ∧ (b + 18) < ((398 : Nat) : Int) := by have := zB_bd hb; omega
theorem zkB19 {b : Int} (hb : zB b) : zkd (b + 19) = 6 := by have h := zkd_B hb (show (0 : Int) ≤ 19 by decide) (by decide); rw [show b + 19 = (b + 19) by omega] at h; rw [h]; decide
theorem znB19 {b : Int} (hb : zB b) : 0 ≤ (b + 19) ∧ (b + 19) < ((398 : Nat) : Int) := by have := zB_bd hb; omega
theorem zkB20 {b : Int} (hb : zB b) : zkd (b + 20) = 13 := by have h := zkd_B hb (show (0 : Int) ≤ 20 by decide) (by decide); rw [show b + 20 = (b + 20) by omega] at h; rw [h]; decide
theorem zlB20 {b : Int} (hb : zB b) : zln (b + 20) = 40 := by have h := zln_B hb (show (0 : Int) ≤ 20 by decide) (by decide); rw [show b + 20 = (b + 20) by omega] at h; rw [h]; decide
theorem znB20 {b : Int} (hb : zB b) : 0 ≤ (b + 20) ∧ (b + 20) < ((398 : Nat) : Int) := by have := zB_bd hb; omega
theorem zkB21 {b : Int} (hb : zB b) : zkd (b + 21) = 6 := by have h := zkd_B hb (show (0 : Int) ≤ 21 by decide) (by decide); rw [show b + 21 = (b + 21) by omega] at h; rw [h]; decide
theorem znB21 {b : Int} (hb : zB b) : 0 ≤ (b + 21) ∧ (b + 21) < ((398 : Nat) : Int) := by have := zB_bd hb; omega
theorem zkB22 {b : Int} (hb : zB b) : zkd (b + 22) = 13 := by have h := zkd_B hb (show (0 : Int) ≤ 22 by decide) (by decide); rw [show b + 22 = (b + 22) by omega] at h; rw [h]; decide
theorem zlB22 {b : Int} (hb : zB b) : zln (b + 22) = 40 := by have h := zln_B hb (show (0 : Int) ≤ 22 by decide) (by decide); rw [show b + 22 = (b + 22) by omega] at h; rw [h]; decide
theorem znB22 {b : Int} (hb : zB b) : 0 ≤ (b + 22) ∧ (b + 22) < ((398 : Nat) : Int) := by have := zB_bd hb; omega
theorem zkB23 {b : Int} (hb : zB b) : zkd (b + 23) = 6 := by have h := zkd_B hb (show (0 : Int) ≤ 23 by decide) (by decide); rw [show b + 23 = (b + 23) by omega] at h; rw [h]; decide
theorem znB23 {b : Int} (hb : zB b) : 0 ≤ (b + 23) ∧ (b + 23) < ((398 : Nat) : Int) := by have := zB_bd hb; omega
theorem zkB24 {b : Int} (hb : zB b) : zkd (b + 24) = 13 := by have h := zkd_B hb (show (0 : Int) ≤ 24 by decide) (by decide); rw [show b + 24 = (b + 24) by omega] at h; rw [h]; decide
theorem zlB24 {b : Int} (hb : zB b) : zln (b + 24) = 40 := by have h := zln_B hb (show (0 : Int) ≤ 24 by decide) (by decide); rw [show b + 24 = (b + 24) by omega] at h; rw [h]; decide
theorem znB24 {b : Int} (hb : zB b) : 0 ≤ (b + 24) ∧ (b + 24) < ((398 : Nat) : Int) := by have := zB_bd hb; omega
theorem zkB25 {b : Int} (hb : zB b) : zkd (b + 25) = 6 := by have h := zkd_B hb (show (0 : Int) ≤ 25 by decide) (by decide); rw [show b + 25 = (b + 25) by omega] at h; rw [h]; decide
theorem znB25 {b : Int} (hb : zB b) : 0 ≤ (b + 25) ∧ (b + 25) < ((398 : Nat) : Int) := by have := zB_bd hb; omega
theorem zkB26 {b : Int} (hb : zB b) : zkd (b + 26) = 13 := by have h := zkd_B hb (show (0 : Int) ≤ 26 by decide) (by decide); rw [show b + 26 = (b + 26) by omega] at h; rw [h]; decide
theorem zlB26 {b : Int} (hb : zB b) : zln (b + 26) = 40 := by have h := zln_B hb (show (0 : Int) ≤ 26 by decide) (by decide); rw [show b + 26 = (b + 26) by omega] at h; rw [h]; decide
theorem znB26 {b : Int} (hb : zB b) : 0 ≤ (b + 26) ∧ (b + 26) < ((398 : Nat) : Int) := by have := zB_bd hb; omega
theorem zkB27 {b : Int} (hb : zB b) : zkd (b + 27) = 6 := by have h := zkd_B hb (show (0 : Int) ≤ 27 by decide) (by decide); rw [show b + 27 = (b + 27) by omega] at h; rw [h]; decide
theorem znB27 {b : Int} (hb : zB b) : 0 ≤ (b + 27) ∧ (b + 27) < ((398 : Nat) : Int) := by have := zB_bd hb; omega
theorem zkB28 {b : Int} (hb : zB b) : zkd (b + 28) = 13 := by have h := zkd_B hb (show (0 : Int) ≤ 28 by decide) (by decide); rw [show b + 28 = (b + 28) by omega] at h; rw [h]; decide
theorem zlB28 {b : Int} (hb : zB b) : zln (b + 28) = 40 := by have h := zln_B hb (show (0 : Int) ≤ 28 by decide) (by decide); rw [show b + 28 = (b + 28) by omega] at h; rw [h]; decide
theorem znB28 {b : Int} (hb : zB b) : 0 ≤ (b + 28) ∧ (b + 28) < ((398 : Nat) : Int) := by have := zB_bd hb; omega
theorem zkB29 {b : Int} (hb : zB b) : zkd (b + 29) = 6 := by have h := zkd_B hb (show (0 : Int) ≤ 29 by decide) (by decide); rw [show b + 29 = (b + 29) by omega] at h; rw [h]; decide
theorem znB29 {b : Int} (hb : zB b) : 0 ≤ (b + 29) ∧ (b + 29) < ((398 : Nat) : Int) := by have := zB_bd hb; omega
theorem zkB30 {b : Int} (hb : zB b) : zkd (b + 30) = 13 := by have h := zkd_B hb (show (0 : Int) ≤ 30 by decide) (by decide); rw [show b + 30 = (b + 30) by omega] at h; rw [h]; decide
theorem zlB30 {b : Int} (hb : zB b) : zln (b + 30) = 40 := by have h := zln_B hb (show (0 : Int) ≤ 30 by decide) (by decide); rw [show b + 30 = (b + 30) by omega] at h; rw [h]; decide
theorem znB30 {b : Int} (hb : zB b) : 0 ≤ (b + 30) ∧ (b + 30) < ((398 : Nat) : Int) := by have := zB_bd hb; omega
theorem zkBh {b h : Int} (hb : zB b) (h0 : 0 ≤ h) (h1 : h < 6) : zkd (b + 9 + h) = 4 := by
  have := zkd_B hb (show 0 ≤ 9 + h by omega) (by omega)
  rw [show b + 9 + h = b + (9 + h) by omega, this]
  unfold zks
  rw [if_neg (by omega), if_neg (by omega), if_neg (by omega), if_neg (by omega), if_neg (by omega), if_neg (by omega), if_neg (by omega), if_pos (by omega)]
theorem znBh {b h : Int} (hb : zB b) (h0 : 0 ≤ h) (h1 : h < 6) : 0 ≤ b + 9 + h ∧ b + 9 + h < ((398 : Nat) : Int) := by have := zB_bd hb; omega
/-- the places of a State's messages -/
def zMo (b o : Int) : Prop := zB b ∧ ∃ k, 0 ≤ k ∧ k < 8 ∧ o = b + 15 + 2 * k
theorem zMo_bd {b o : Int} (h : zMo b o) : b + 15 ≤ o ∧ o + 1 < b + 31 := by
  obtain ⟨-, k, k0, k1, rfl⟩ := h
  omega
theorem zkO {b o : Int} (h : zMo b o) : zkd o = 6 := by
  obtain ⟨hb, k, k0, k1, rfl⟩ := h
  have := zkd_B hb (show 0 ≤ 15 + 2 * k by omega) (by omega)
  rw [show b + 15 + 2 * k = b + (15 + 2 * k) by omega, this]
  unfold zks
  rw [if_neg (by omega), if_neg (by omega), if_neg (by omega), if_neg (by omega), if_neg (by omega), if_neg (by omega), if_neg (by omega), if_neg (by omega), if_pos (by omega)]
theorem zkO1 {b o : Int} (h : zMo b o) : zkd (o + 1) = 13 := by
  obtain ⟨hb, k, k0, k1, rfl⟩ := h
  have := zkd_B hb (show 0 ≤ 16 + 2 * k by omega) (by omega)
  rw [show b + 15 + 2 * k + 1 = b + (16 + 2 * k) by omega, this]
  unfold zks
  rw [if_neg (by omega), if_neg (by omega), if_neg (by omega), if_neg (by omega), if_neg (by omega), if_neg (by omega), if_neg (by omega), if_neg (by omega), if_neg (by omega)]
theorem zlO1 {b o : Int} (h : zMo b o) : zln (o + 1) = 40 := by
  obtain ⟨hb, k, k0, k1, rfl⟩ := h
  have := zln_B hb (show 0 ≤ 16 + 2 * k by omega) (by omega)
  rw [show b + 15 + 2 * k + 1 = b + (16 + 2 * k) by omega, this]
  unfold zlns
  rw [if_neg (by omega), if_neg (by omega), if_neg (by omega), if_neg (by omega), if_neg (by omega)]
theorem znO {b o : Int} (h : zMo b o) : 0 ≤ o ∧ o < ((398 : Nat) : Int) := by have := zMo_bd h; have := zB_bd h.1; omega
theorem znO1 {b o : Int} (h : zMo b o) : 0 ≤ o + 1 ∧ o + 1 < ((398 : Nat) : Int) := by have := zMo_bd h; have := zB_bd h.1; omega
/-- the places of the reader's commands -/
def zCm (q : Int) : Prop := ∃ t, 0 ≤ t ∧ t < 9 ∧ q = 378 + 2 * t
theorem zkQt {t : Int} (h0 : 0 ≤ t) (h1 : t < 9) : zkd (378 + 2 * t) = 2 := by
  unfold zkd
  rw [if_neg (by omega), if_neg (by omega), if_neg (by omega), if_neg (by omega), if_neg (by omega), if_neg (by omega), if_neg (by omega), if_neg (by omega), if_pos (by omega), if_pos (by omega)]
theorem znQt {t : Int} (h0 : 0 ≤ t) (h1 : t < 9) : 0 ≤ 378 + 2 * t ∧ 378 + 2 * t < ((398 : Nat) : Int) := by omega
theorem zkQ {q : Int} (h : zCm q) : zkd q = 2 := by
  obtain ⟨t, t0, t1, rfl⟩ := h
  exact zkQt t0 t1
theorem zkQ1 {q : Int} (h : zCm q) : zkd (q + 1) = 13 := by
  obtain ⟨t, t0, t1, rfl⟩ := h
  unfold zkd
  rw [if_neg (by omega), if_neg (by omega), if_neg (by omega), if_neg (by omega), if_neg (by omega), if_neg (by omega), if_neg (by omega), if_neg (by omega), if_pos (by omega), if_neg (by omega)]
theorem zlQ1 {q : Int} (h : zCm q) : zln (q + 1) = 3 := by
  obtain ⟨t, t0, t1, rfl⟩ := h
  unfold zln
  rw [if_neg (by omega), if_neg (by omega), if_neg (by omega), if_neg (by omega), if_neg (by omega), if_pos (by omega)]
theorem znQ {q : Int} (h : zCm q) : 0 ≤ q ∧ q < ((398 : Nat) : Int) := by obtain ⟨t, t0, t1, rfl⟩ := h; omega
theorem znQ1 {q : Int} (h : zCm q) : 0 ≤ q + 1 ∧ q + 1 < ((398 : Nat) : Int) := by obtain ⟨t, t0, t1, rfl⟩ := h; omega
/-- the history's places -/
theorem zB_H {t : Int} (h0 : 0 ≤ t) (h1 : t < 9) : zB (96 + 31 * t) := Or.inr ⟨t, h0, h1, rfl⟩
theorem zkH {t : Int} (h0 : 0 ≤ t) (h1 : t < 9) : zkd (96 + 31 * t) = 7 := zkB0 (zB_H h0 h1)
theorem znH {t : Int} (h0 : 0 ≤ t) (h1 : t < 9) : 0 ≤ 96 + 31 * t ∧ 96 + 31 * t < ((398 : Nat) : Int) := znB0 (zB_H h0 h1)
theorem zB_1 : zB 1 := Or.inl (Or.inl rfl)
theorem zB_32 : zB 32 := Or.inl (Or.inr (Or.inl rfl))
theorem zB_63 : zB 63 := Or.inl (Or.inr (Or.inr rfl))
theorem zK2 : zkd 2 = 1 := by decide
theorem zN2 : (0 : Int) ≤ 2 ∧ (2 : Int) < ((398 : Nat) : Int) := by decide
theorem zK3 : zkd 3 = 13 := by decide
theorem zN3 : (0 : Int) ≤ 3 ∧ (3 : Int) < ((398 : Nat) : Int) := by decide
theorem zL3 : zln 3 = 64 := by decide
theorem zK4 : zkd 4 = 13 := by decide
theorem zN4 : (0 : Int) ≤ 4 ∧ (4 : Int) < ((398 : Nat) : Int) := by decide
theorem zL4 : zln 4 = 64 := by decide
theorem zK5 : zkd 5 = 13 := by decide
theorem zN5 : (0 : Int) ≤ 5 ∧ (5 : Int) < ((398 : Nat) : Int) := by decide
theorem zL5 : zln 5 = 8 := by decide
theorem zK6 : zkd 6 = 15 := by decide
theorem zN6 : (0 : Int) ≤ 6 ∧ (6 : Int) < ((398 : Nat) : Int) := by decide
theorem zL6 : zln 6 = 6 := by decide
theorem zK7 : zkd 7 = 16 := by decide
theorem zN7 : (0 : Int) ≤ 7 ∧ (7 : Int) < ((398 : Nat) : Int) := by decide
theorem zL7 : zln 7 = 8 := by decide
theorem zK8 : zkd 8 = 0 := by decide
theorem zN8 : (0 : Int) ≤ 8 ∧ (8 : Int) < ((398 : Nat) : Int) := by decide
theorem zK9 : zkd 9 = 13 := by decide
theorem zN9 : (0 : Int) ≤ 9 ∧ (9 : Int) < ((398 : Nat) : Int) := by decide
theorem zL9 : zln 9 = 1024 := by decide
theorem zK10 : zkd 10 = 4 := by decide
theorem zN10 : (0 : Int) ≤ 10 ∧ (10 : Int) < ((398 : Nat) : Int) := by decide
theorem zK11 : zkd 11 = 4 := by decide
theorem zN11 : (0 : Int) ≤ 11 ∧ (11 : Int) < ((398 : Nat) : Int) := by decide
theorem zK12 : zkd 12 = 4 := by decide
theorem zN12 : (0 : Int) ≤ 12 ∧ (12 : Int) < ((398 : Nat) : Int) := by decide
theorem zK13 : zkd 13 = 4 := by decide
theorem zN13 : (0 : Int) ≤ 13 ∧ (13 : Int) < ((398 : Nat) : Int) := by decide
theorem zK14 : zkd 14 = 4 := by decide
theorem zN14 : (0 : Int) ≤ 14 ∧ (14 : Int) < ((398 : Nat) : Int) := by decide
theorem zK15 : zkd 15 = 4 := by decide
theorem zN15 : (0 : Int) ≤ 15 ∧ (15 : Int) < ((398 : Nat) : Int) := by decide
theorem zK16 : zkd 16 = 6 := by decide
theorem zN16 : (0 : Int) ≤ 16 ∧ (16 : Int) < ((398 : Nat) : Int) := by decide
theorem zK17 : zkd 17 = 13 := by decide
theorem zN17 : (0 : Int) ≤ 17 ∧ (17 : Int) < ((398 : Nat) : Int) := by decide
theorem zL17 : zln 17 = 40 := by decide
theorem zK18 : zkd 18 = 6 := by decide
theorem zN18 : (0 : Int) ≤ 18 ∧ (18 : Int) < ((398 : Nat) : Int) := by decide
theorem zK19 : zkd 19 = 13 := by decide
theorem zN19 : (0 : Int) ≤ 19 ∧ (19 : Int) < ((398 : Nat) : Int) := by decide
theorem zL19 : zln 19 = 40 := by decide
theorem zK20 : zkd 20 = 6 := by decide
theorem zN20 : (0 : Int) ≤ 20 ∧ (20 : Int) < ((398 : Nat) : Int) := by decide
theorem zK21 : zkd 21 = 13 := by decide
theorem zN21 : (0 : Int) ≤ 21 ∧ (21 : Int) < ((398 : Nat) : Int) := by decide
theorem zL21 : zln 21 = 40 := by decide
theorem zK22 : zkd 22 = 6 := by decide
theorem zN22 : (0 : Int) ≤ 22 ∧ (22 : Int) < ((398 : Nat) : Int) := by decide
theorem zK23 : zkd 23 = 13 := by decide
theorem zN23 : (0 : Int) ≤ 23 ∧ (23 : Int) < ((398 : Nat) : Int) := by decide
theorem zL23 : zln 23 = 40 := by decide
theorem zK24 : zkd 24 = 6 := by decide
theorem zN24 : (0 : Int) ≤ 24 ∧ (24 : Int) < ((398 : Nat) : Int) := by decide
theorem zK25 : zkd 25 = 13 := by decide
theorem zN25 : (0 : Int) ≤ 25 ∧ (25 : Int) < ((398 : Nat) : Int) := by decide
theorem zL25 : zln 25 = 40 := by decide
theorem zK26 : zkd 26 = 6 := by decide
theorem zN26 : (0 : Int) ≤ 26 ∧ (26 : Int) < ((398 : Nat) : Int) := by decide
theorem zK27 : zkd 27 = 13 := by decide
theorem zN27 : (0 : Int) ≤ 27 ∧ (27 : Int) < ((398 : Nat) : Int) := by decide
theorem zL27 : zln 27 = 40 := by decide
theorem zK28 : zkd 28 = 6 := by decide
theorem zN28 : (0 : Int) ≤ 28 ∧ (28 : Int) < ((398 : Nat) : Int) := by decide
theorem zK29 : zkd 29 = 13 := by decide
theorem zN29 : (0 : Int) ≤ 29 ∧ (29 : Int) < ((398 : Nat) : Int) := by decide
theorem zL29 : zln 29 = 40 := by decide
theorem zK30 : zkd 30 = 6 := by decide
theorem zN30 : (0 : Int) ≤ 30 ∧ (30 : Int) < ((398 : Nat) : Int) := by decide
theorem zK31 : zkd 31 = 13 := by decide
theorem zN31 : (0 : Int) ≤ 31 ∧ (31 : Int) < ((398 : Nat) : Int) := by decide
theorem zL31 : zln 31 = 40 := by decide
/-! the relation between the State at b and the model's row V -/
def zRc (b : Int) (V : Int → Int) (M : zMem) : Prop := M (b + 1) 0 = V 0 ∧ M (b + 1) 1 = zTu V ∧ M b 2 = V 1 ∧ M b 4 = V 2 ∧ M b 5 = V 3 ∧ M b 7 = V 4 ∧ M b 8 = V 5 ∧ M b 9 = V 6 ∧ M b 10 = V 7
def zRt (b : Int) (V : Int → Int) (M : zMem) : Prop := ∀ i, 0 ≤ i → i < 64 → M (b + 2) i = V (8 + i)
def zRw (b : Int) (V : Int → Int) (M : zMem) : Prop := ∀ a c, zc8 a → zc8 c → M (b + 3) (8 * a + c) = zBF V a c
def zRh (b : Int) (V : Int → Int) (M : zMem) : Prop := ∀ h, 0 ≤ h → h < V 1 → M (b + 9 + h) 0 = V (72 + 4 * h + 0) ∧ M (b + 9 + h) 1 = V (72 + 4 * h + 1) ∧ M (b + 9 + h) 2 = V (72 + 4 * h + 2) ∧ (0 < V (72 + 4 * h + 2) → M (b + 9 + h) 3 = V (72 + 4 * h + 3) - 1)
def zRp (b : Int) (F : zMem) : Prop := (∀ p, zc8 p → zMo b (F (b + 6) p)) ∧ ∀ p q, zc8 p → zc8 q → F (b + 6) p = F (b + 6) q → p = q
def zRm1 (b p o : Int) (V : Int → Int) (M : zMem) : Prop := (M o 0 = V (96 + 47 * p + 0) ∧ M o 1 = V (96 + 47 * p + 1) ∧ M o 2 = V (96 + 47 * p + 2) ∧ M o 3 = V (96 + 47 * p + 3) ∧ M o 4 = V (96 + 47 * p + 4) ∧ M o 5 = V (96 + 47 * p + 5) ∧ M o 6 = V (96 + 47 * p + 6)) ∧ ∀ q c, 0 ≤ q → q < V (96 + 47 * p + 6) → zbt (V (96 + 47 * p + 3)) q = 1 → zc8 c → M (o + 1) (8 * q + c) = V (96 + 47 * p + 7 + 8 * q + c) - 1
def zRm (b : Int) (V : Int → Int) (M F : zMem) : Prop := ∀ p, 0 ≤ p → p < V 2 → zRm1 b p (F (b + 6) p) V M
def zRa (b : Int) (V : Int → Int) (M : zMem) : Prop := ∀ c t, zc8 c → V 4 - 20 ≤ t → t ≤ V 4 + 80 → M (b + 8) (128 * c + t % 128) = V (472 + 128 * c + t % 128)
def zRS (b : Int) (V : Int → Int) (M F : zMem) : Prop := zRc b V M ∧ zRt b V M ∧ zRw b V M ∧ zRh b V M ∧ zRp b F ∧ zRm b V M F ∧ zRa b V M
/-- nothing outside the State at b is changed -/
def zOut (b : Int) (M F M' F' : zMem) : Prop := ∀ i, (i < b ∨ b + 31 ≤ i) → M' i = M i ∧ F' i = F i
theorem zOut_rf {b : Int} {M F : zMem} : zOut b M F M F := fun _ _ => ⟨rfl, rfl⟩
theorem zOut_tr {b : Int} {M F M' F' M2 F2 : zMem} (h : zOut b M F M' F') (h2 : zOut b M' F' M2 F2) : zOut b M F M2 F2 := fun i hi => ⟨(h2 i hi).1.trans (h i hi).1, (h2 i hi).2.trans (h i hi).2⟩
theorem zOut_u {b i j v : Int} {M F M' : zMem} (h : zOut b M F M' F) (hi : b ≤ i ∧ i < b + 31) : zOut b M F (zu M' i j v) F := fun a ha => ⟨(zu_row (by omega)).trans (h a ha).1, rfl⟩
theorem zOut_uF {b i j v : Int} {M F M' F' : zMem} (h : zOut b M F M' F') (hi : b ≤ i ∧ i < b + 31) : zOut b M F M' (zu F' i j v) := fun a ha => ⟨(h a ha).1, (zu_row (by omega)).trans (h a ha).2⟩
theorem zOut_w {b i : Int} {r : Int → Int} {M F M' : zMem} (h : zOut b M F M' F) (hi : b ≤ i ∧ i < b + 31) : zOut b M F (zrow M' i r) F := fun a ha => ⟨(zrow_ne (by omega)).trans (h a ha).1, rfl⟩
/-- a State that lies elsewhere stays what it is -/
theorem zRS_out {b b' : Int} {V : Int → Int} {M F M' F' : zMem} (h : zRS b V M F) (hV1 : V 1 ≤ 6) (hV2 : V 2 ≤ 8) (ho : zOut b' M F M' F') (hd : b + 31 ≤ b' ∨ b' + 31 ≤ b) : zRS b V M' F' := by
  have e : ∀ i, b ≤ i → i < b + 31 → M' i = M i ∧ F' i = F i := fun i h0 h1 => ho i (by omega)
  obtain ⟨hc, ht, hw, hh, hp, hm, ha⟩ := h
  have e6 := (e (b + 6) (by omega) (by omega)).2
  refine ⟨?_, ?_, ?_, ?_, ?_, ?_, ?_⟩
  · unfold zRc
    rw [(e (b + 1) (by omega) (by omega)).1, (e b (by omega) (by omega)).1]
    exact hc
  · intro i h0 h1
    rw [(e (b + 2) (by omega) (by omega)).1]
    exact ht i h0 h1
  · intro a c h0 h1
    rw [(e (b + 3) (by omega) (by omega)).1]
    exact hw a c h0 h1
  · intro q h0 h1
    rw [(e (b + 9 + q) (by omega) (by omega)).1]
    exact hh q h0 h1
  · exact ⟨fun p h8 => by rw [e6]; exact hp.1 p h8, fun p q h8 q8 => by rw [e6]; exact hp.2 p q h8 q8⟩
  · intro p h0 h1
    have hmo := hp.1 p ⟨h0, by omega⟩
    have hbd := zMo_bd hmo
    rw [e6]
    unfold zRm1
    rw [(e (F (b + 6) p) (by omega) (by omega)).1, (e (F (b + 6) p + 1) (by omega) (by omega)).1]
    exact hm p h0 h1
  · intro c t hc8 h0 h1
    rw [(e (b + 8) (by omega) (by omega)).1]
    exact ha c t hc8 h0 h1
/-- what a change answers: k is the place in the model's list, r the fault -/
def zFt (L : List Int) (k r : Int) : Prop := r = (0 :: L).getD k.toNat 0
/-- the burrow alone -/
def zRB (b : Int) (V : Int → Int) (M : zMem) : Prop := M (b + 1) 0 = V 0 ∧ zRt b V M ∧ zRw b V M
theorem zRS.B {b : Int} {V : Int → Int} {M F : zMem} (h : zRS b V M F) : zRB b V M := ⟨h.1.1, h.2.1, h.2.2.1⟩
theorem zRS.c0 {b : Int} {V : Int → Int} {M F : zMem} (h : zRS b V M F) : M (b + 1) 0 = V 0 := h.1.1
theorem zRS.c1 {b : Int} {V : Int → Int} {M F : zMem} (h : zRS b V M F) : M (b + 1) 1 = zTu V := h.1.2.1
theorem zRS.c2 {b : Int} {V : Int → Int} {M F : zMem} (h : zRS b V M F) : M b 2 = V 1 := h.1.2.2.1
theorem zRS.c4 {b : Int} {V : Int → Int} {M F : zMem} (h : zRS b V M F) : M b 4 = V 2 := h.1.2.2.2.1
theorem zRS.c5 {b : Int} {V : Int → Int} {M F : zMem} (h : zRS b V M F) : M b 5 = V 3 := h.1.2.2.2.2.1
theorem zRS.c7 {b : Int} {V : Int → Int} {M F : zMem} (h : zRS b V M F) : M b 7 = V 4 := h.1.2.2.2.2.2.1
theorem zRS.c8 {b : Int} {V : Int → Int} {M F : zMem} (h : zRS b V M F) : M b 8 = V 5 := h.1.2.2.2.2.2.2.1
theorem zRS.c9 {b : Int} {V : Int → Int} {M F : zMem} (h : zRS b V M F) : M b 9 = V 6 := h.1.2.2.2.2.2.2.2.1
theorem zRS.c10 {b : Int} {V : Int → Int} {M F : zMem} (h : zRS b V M F) : M b 10 = V 7 := h.1.2.2.2.2.2.2.2.2
theorem zRS.h0 {b h : Int} {V : Int → Int} {M F : zMem} (hr : zRS b V M F) (h0 : 0 ≤ h) (h1 : h < V 1) : M (b + 9 + h) 0 = V (72 + 4 * h + 0) := (hr.2.2.2.1 h h0 h1).1
theorem zRS.h1 {b h : Int} {V : Int → Int} {M F : zMem} (hr : zRS b V M F) (h0 : 0 ≤ h) (h1 : h < V 1) : M (b + 9 + h) 1 = V (72 + 4 * h + 1) := (hr.2.2.2.1 h h0 h1).2.1
theorem zRS.h2 {b h : Int} {V : Int → Int} {M F : zMem} (hr : zRS b V M F) (h0 : 0 ≤ h) (h1 : h < V 1) : M (b + 9 + h) 2 = V (72 + 4 * h + 2) := (hr.2.2.2.1 h h0 h1).2.2.1
theorem zRS.m0 {b p : Int} {V : Int → Int} {M F : zMem} (hr : zRS b V M F) (h0 : 0 ≤ p) (h1 : p < V 2) : M (F (b + 6) p) 0 = V (96 + 47 * p + 0) := (hr.2.2.2.2.2.1 p h0 h1).1.1
theorem zRS.m1 {b p : Int} {V : Int → Int} {M F : zMem} (hr : zRS b V M F) (h0 : 0 ≤ p) (h1 : p < V 2) : M (F (b + 6) p) 1 = V (96 + 47 * p + 1) := (hr.2.2.2.2.2.1 p h0 h1).1.2.1
theorem zRS.m2 {b p : Int} {V : Int → Int} {M F : zMem} (hr : zRS b V M F) (h0 : 0 ≤ p) (h1 : p < V 2) : M (F (b + 6) p) 2 = V (96 + 47 * p + 2) := (hr.2.2.2.2.2.1 p h0 h1).1.2.2.1
theorem zRS.m3 {b p : Int} {V : Int → Int} {M F : zMem} (hr : zRS b V M F) (h0 : 0 ≤ p) (h1 : p < V 2) : M (F (b + 6) p) 3 = V (96 + 47 * p + 3) := (hr.2.2.2.2.2.1 p h0 h1).1.2.2.2.1
theorem zRS.m4 {b p : Int} {V : Int → Int} {M F : zMem} (hr : zRS b V M F) (h0 : 0 ≤ p) (h1 : p < V 2) : M (F (b + 6) p) 4 = V (96 + 47 * p + 4) := (hr.2.2.2.2.2.1 p h0 h1).1.2.2.2.2.1
theorem zRS.m5 {b p : Int} {V : Int → Int} {M F : zMem} (hr : zRS b V M F) (h0 : 0 ≤ p) (h1 : p < V 2) : M (F (b + 6) p) 5 = V (96 + 47 * p + 5) := (hr.2.2.2.2.2.1 p h0 h1).1.2.2.2.2.2.1
theorem zRS.m6 {b p : Int} {V : Int → Int} {M F : zMem} (hr : zRS b V M F) (h0 : 0 ≤ p) (h1 : p < V 2) : M (F (b + 6) p) 6 = V (96 + 47 * p + 6) := (hr.2.2.2.2.2.1 p h0 h1).1.2.2.2.2.2.2
theorem zRS.mo {b p : Int} {V : Int → Int} {M F : zMem} (hr : zRS b V M F) (h0 : 0 ≤ p) (h1 : p < 8) : zMo b (F (b + 6) p) := hr.2.2.2.2.1.1 p ⟨h0, h1⟩
