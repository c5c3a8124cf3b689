/-! division of a number not above zero -/
theorem zI_divn {x y : Int} (h0 : 0 ≤ x) (h1 : x < 2147483648) (y0 : 0 < y) (y1 : y < 2147483648) : zI (-x) / zI y = zI (-(x / y)) := by
  apply Int32.toInt_inj.mp
  rw [Int32.toInt_div, zI_toInt (by omega) (by omega), zI_toInt (by omega) (by omega), Int.neg_tdiv, Int.tdiv_eq_ediv_of_nonneg h0]
  have a : 0 ≤ x / y := Int.ediv_nonneg h0 (by omega)
  have b : x / y ≤ x := Int.ediv_le_self y h0
  rw [zI_toInt (by omega) (by omega)]
  rw [Int.bmod_eq_of_le (by omega) (by omega)]
