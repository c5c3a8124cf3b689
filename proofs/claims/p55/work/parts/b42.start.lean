/-! the first world -/
theorem va_refs {D : va_G} {cl : List vw_C} {H : Heap} {x n : Nat} {cid : ClassId} {f f' : Nat → Option Nat} (h : va_at D cl (x, .inl (cid, n, .inr (.inr (.inr (.inr f))))) H) (e : ∀ j, j < n → f j = f' j) : va_at D cl (x, .inl (cid, n, .inr (.inr (.inr (.inr f'))))) H := by
  have h : H[x]? = some (arrV cid n (fun j => va_rf (f j))) := h
  show H[x]? = some (arrV cid n (fun j => va_rf (f' j)))
  rw [h, arrV_ext (fun j hj => by rw [e j hj])]
theorem va_ints {D : va_G} {cl : List vw_C} {H : Heap} {x n : Nat} {cid : ClassId} {f f' : Nat → Int32} (h : va_at D cl (x, .inl (cid, n, .inl f)) H) (e : ∀ j, j < n → f j = f' j) : va_at D cl (x, .inl (cid, n, .inl f')) H := by
  have h : H[x]? = some (arrV cid n (fun j => .int (f j))) := h
  show H[x]? = some (arrV cid n (fun j => .int (f' j)))
  rw [h, arrV_ext (fun j hj => by rw [e j hj])]
theorem va_P.l {D : va_G} {cl : List vw_C} {H : Heap} {w1 w2 : va_W} (h : va_P D cl (w1 ++ w2) H) : va_P D cl w1 H := fun k q hq => h k q (by rw [List.getElem?_append_left (List.getElem?_eq_some_iff.mp hq).1]; exact hq)
theorem va_P.r {D : va_G} {cl : List vw_C} {H : Heap} {w1 w2 : va_W} (h : va_P D cl (w1 ++ w2) H) : va_P D cl w2 H := fun k q hq => h (w1.length + k) q (by rw [List.getElem?_append_right (by omega), show w1.length + k - w1.length = k by omega]; exact hq)
/-- the way delays of an empty burrow -/
def wz : Int → Int := fun j => if 0 ≤ j ∧ j < 64 then zBF (fun _ => 0) (j / 8) (j % 8) else 0
theorem wz_is {R : Int → Int} (hR : ∀ x y, zc8 x → zc8 y → R (8 * x + y) = zBF (fun _ => 0) x y) (j : Nat) (hj : j < 64) : R (j : Int) = wz (j : Int) := by
  unfold wz
  rw [if_pos (by omega), ← hR ((j : Int) / 8) ((j : Int) % 8) ⟨by omega, by omega⟩ ⟨by omega, by omega⟩, show 8 * ((j : Int) / 8) + (j : Int) % 8 = (j : Int) by omega]
theorem wz_R (j : Int) : zR (wz j) := by
  unfold wz
  split
  · have := zBF_bd (V := fun _ => 0) (a := j / 8) (fun _ _ _ => ⟨by decide, by decide⟩) (j % 8) (by omega) (by omega)
    exact ⟨by omega, by omega⟩
  · exact zR_0
def mM : zMem := fun i j => if (1 ≤ i ∧ i < 94 ∧ (i - 1) % 31 = 3) ∨ (96 ≤ i ∧ i < 375 ∧ (i - 96) % 31 = 3) then wz j else if (i = 0 ∧ (j = 7 ∨ j = 8)) ∨ (i = 375 ∧ j = 4) ∨ (i = 398 ∧ (j = 15 ∨ j = 16)) then -1 else 0
def mF : zMem := fun i p => if (1 ≤ i ∧ i < 94 ∧ (i - 1) % 31 = 6) ∨ (96 ≤ i ∧ i < 375 ∧ (i - 96) % 31 = 6) then i + 9 + 2 * p else if 378 ≤ i ∧ i < 396 then 10 else 0
theorem mM_0 {i : Int} (h1 : ¬ ((1 ≤ i ∧ i < 94 ∧ (i - 1) % 31 = 3) ∨ (96 ≤ i ∧ i < 375 ∧ (i - 96) % 31 = 3))) (h2 : i ≠ 0) (h3 : i ≠ 375) (h4 : i ≠ 398) : mM i = fun _ => 0 := funext fun j => by
  unfold mM
  rw [if_neg h1, if_neg (by omega)]
theorem mM_R : zRM mM := fun i j => by
  unfold mM
  split
  · exact wz_R j
  · split
    · exact ⟨by decide, by decide⟩
    · exact zR_0
def mSt (b' : Nat) (a : Nat → Nat) (j : Nat) : Nat := if j = 0 then b' else a j
def mAd (b0 : Nat) (q : Nat → Nat) (a : Nat → Nat → Nat) (qh : Nat) (bs : Nat → Nat) (ah : Nat → Nat → Nat) (ar : Nat → Nat) (qs : Nat) : Int → Nat := fun i =>
  if i = 0 then b0 else if i < 94 then mSt (q ((i - 1) / 31).toNat) (a ((i - 1) / 31).toNat) ((i - 1) % 31).toNat else if i = 94 then q 3 else if i = 95 then qh
  else if i < 375 then mSt (bs ((i - 96) / 31).toNat) (ah ((i - 96) / 31).toNat) ((i - 96) % 31).toNat else if i < 396 then mSt (q 4) ar (i - 375).toNat
  else if i = 396 then q 5 else qs
theorem mAd_1 {b0 : Nat} {q : Nat → Nat} {a : Nat → Nat → Nat} {qh : Nat} {bs : Nat → Nat} {ah : Nat → Nat → Nat} {ar : Nat → Nat} {qs : Nat} {x : Int} (t j : Nat) (ht : t < 3) (hj : j < 31) (e : x = 1 + 31 * (t : Int) + (j : Int)) : mAd b0 q a qh bs ah ar qs x = mSt (q t) (a t) j := by
  subst e
  unfold mAd
  rw [if_neg (by omega), if_pos (by omega), show ((1 + 31 * (t : Int) + (j : Int) - 1) / 31).toNat = t by omega, show ((1 + 31 * (t : Int) + (j : Int) - 1) % 31).toNat = j by omega]
theorem mAd_2 {b0 : Nat} {q : Nat → Nat} {a : Nat → Nat → Nat} {qh : Nat} {bs : Nat → Nat} {ah : Nat → Nat → Nat} {ar : Nat → Nat} {qs : Nat} {x : Int} (t j : Nat) (ht : t < 9) (hj : j < 31) (e : x = 96 + 31 * (t : Int) + (j : Int)) : mAd b0 q a qh bs ah ar qs x = mSt (bs t) (ah t) j := by
  subst e
  unfold mAd
  rw [if_neg (by omega), if_neg (by omega), if_neg (by omega), if_neg (by omega), if_pos (by omega), show ((96 + 31 * (t : Int) + (j : Int) - 96) / 31).toNat = t by omega, show ((96 + 31 * (t : Int) + (j : Int) - 96) % 31).toNat = j by omega]
theorem sb_pl {g : zG} {ad : Int → Nat} {M F : zMem} {b : Int} (hb : zB b) {b' : Nat} {a : Nat → Nat} {R : Int → Int} {D : va_G} {H : Heap} (h0 : ad b = b') (ha : ∀ j : Nat, 1 ≤ j → j < 31 → ad (b + (j : Int)) = a j) (hM0 : M b = fun _ => 0) (hM : ∀ j : Int, 1 ≤ j → j < 31 → j ≠ 3 → M (b + j) = fun _ => 0) (hM3 : M (b + 3) = wz) (hF : F (b + 6) = fun p => b + 15 + 2 * p) (hR : ∀ x y, zc8 x → zc8 y → R (8 * x + y) = zBF (fun _ => 0) x y) (hP : va_P D zCl (sbk g b' a R) H) : ∀ j : Nat, j < 31 → va_at D zCl (ad (b + (j : Int)), zE g ad (b + (j : Int)) (M (b + (j : Int))) (F (b + (j : Int)))) H := by
  have hk : ∀ (x : Int) (j : Nat), x = b + (j : Int) → 1 ≤ j → j < 31 → ad x = a j := fun x j e h1 h2 => by rw [e]; exact ha j h1 h2
  intro j hj
  have hc : j = 0 ∨ j = 1 ∨ j = 2 ∨ j = 3 ∨ j = 4 ∨ j = 5 ∨ j = 6 ∨ j = 7 ∨ j = 8 ∨ j = 9 ∨ j = 10 ∨ j = 11 ∨ j = 12 ∨ j = 13 ∨ j = 14 ∨ j = 15 ∨ j = 16 ∨ j = 17 ∨ j = 18 ∨ j = 19 ∨ j = 20 ∨ j = 21 ∨ j = 22 ∨ j = 23 ∨ j = 24 ∨ j = 25 ∨ j = 26 ∨ j = 27 ∨ j = 28 ∨ j = 29 ∨ j = 30 := by omega
  rcases hc with rfl | rfl | rfl | rfl | rfl | rfl | rfl | rfl | rfl | rfl | rfl | rfl | rfl | rfl | rfl | rfl | rfl | rfl | rfl | rfl | rfl | rfl | rfl | rfl | rfl | rfl | rfl | rfl | rfl | rfl | rfl
  · skip
    have q := hP 0 _ rfl
    rw [show b + ((0 : Nat) : Int) = b by omega, zE_7 (zkB0 hb), h0, hM0, hk (b + 1) 1 (by omega) (by decide) (by decide), hk (b + 5) 5 (by omega) (by decide) (by decide), hk (b + 6) 6 (by omega) (by decide) (by decide), hk (b + 7) 7 (by omega) (by decide) (by decide)]
    exact q
  · skip
    have q := hP 1 _ rfl
    show va_at D zCl (ad (b + 1), zE g ad (b + 1) (M (b + 1)) (F (b + 1))) H
    rw [zE_1 (zkB1 hb), hM 1 (by decide) (by decide) (by decide), hk (b + 1) 1 (by omega) (by decide) (by decide), hk (b + 1 + 1) 2 (by omega) (by decide) (by decide), hk (b + 1 + 2) 3 (by omega) (by decide) (by decide), hk (b + 1 + 3) 4 (by omega) (by decide) (by decide)]
    exact q
  · skip
    have q := hP 2 _ rfl
    show va_at D zCl (ad (b + 2), zE g ad (b + 2) (M (b + 2)) (F (b + 2))) H
    rw [zE_13 (zkB2 hb), zlB2 hb, hM 2 (by decide) (by decide) (by decide), hk (b + 2) 2 (by omega) (by decide) (by decide)]
    exact q
  · skip
    have q := hP 3 _ rfl
    show va_at D zCl (ad (b + 3), zE g ad (b + 3) (M (b + 3)) (F (b + 3))) H
    rw [zE_13 (zkB3 hb), zlB3 hb, hM3, hk (b + 3) 3 (by omega) (by decide) (by decide)]
    exact va_ints q (fun j hj => congrArg zI (wz_is hR j hj))
  · skip
    have q := hP 4 _ rfl
    show va_at D zCl (ad (b + 4), zE g ad (b + 4) (M (b + 4)) (F (b + 4))) H
    rw [zE_13 (zkB4 hb), zlB4 hb, hM 4 (by decide) (by decide) (by decide), hk (b + 4) 4 (by omega) (by decide) (by decide)]
    exact q
  · skip
    have q := hP 5 _ rfl
    show va_at D zCl (ad (b + 5), zE g ad (b + 5) (M (b + 5)) (F (b + 5))) H
    rw [zE_15 (zkB5 hb), zlB5 hb, hk (b + 5) 5 (by omega) (by decide) (by decide)]
    refine va_refs q (fun j hj => ?_)
    match j, hj with
    | 0, _ => show some (a 9) = some (ad (b + 5 + 4 + ((0 : Nat) : Int))); rw [hk (b + 5 + 4 + ((0 : Nat) : Int)) 9 (by omega) (by decide) (by decide)]
    | 1, _ => show some (a 10) = some (ad (b + 5 + 4 + ((1 : Nat) : Int))); rw [hk (b + 5 + 4 + ((1 : Nat) : Int)) 10 (by omega) (by decide) (by decide)]
    | 2, _ => show some (a 11) = some (ad (b + 5 + 4 + ((2 : Nat) : Int))); rw [hk (b + 5 + 4 + ((2 : Nat) : Int)) 11 (by omega) (by decide) (by decide)]
    | 3, _ => show some (a 12) = some (ad (b + 5 + 4 + ((3 : Nat) : Int))); rw [hk (b + 5 + 4 + ((3 : Nat) : Int)) 12 (by omega) (by decide) (by decide)]
    | 4, _ => show some (a 13) = some (ad (b + 5 + 4 + ((4 : Nat) : Int))); rw [hk (b + 5 + 4 + ((4 : Nat) : Int)) 13 (by omega) (by decide) (by decide)]
    | 5, _ => show some (a 14) = some (ad (b + 5 + 4 + ((5 : Nat) : Int))); rw [hk (b + 5 + 4 + ((5 : Nat) : Int)) 14 (by omega) (by decide) (by decide)]
  · skip
    have q := hP 6 _ rfl
    show va_at D zCl (ad (b + 6), zE g ad (b + 6) (M (b + 6)) (F (b + 6))) H
    rw [zE_16 (zkB6 hb), zlB6 hb, hF, hk (b + 6) 6 (by omega) (by decide) (by decide)]
    refine va_refs q (fun j hj => ?_)
    match j, hj with
    | 0, _ => show some (a 15) = some (ad (b + 15 + 2 * ((0 : Nat) : Int))); rw [hk (b + 15 + 2 * ((0 : Nat) : Int)) 15 (by omega) (by decide) (by decide)]
    | 1, _ => show some (a 17) = some (ad (b + 15 + 2 * ((1 : Nat) : Int))); rw [hk (b + 15 + 2 * ((1 : Nat) : Int)) 17 (by omega) (by decide) (by decide)]
    | 2, _ => show some (a 19) = some (ad (b + 15 + 2 * ((2 : Nat) : Int))); rw [hk (b + 15 + 2 * ((2 : Nat) : Int)) 19 (by omega) (by decide) (by decide)]
    | 3, _ => show some (a 21) = some (ad (b + 15 + 2 * ((3 : Nat) : Int))); rw [hk (b + 15 + 2 * ((3 : Nat) : Int)) 21 (by omega) (by decide) (by decide)]
    | 4, _ => show some (a 23) = some (ad (b + 15 + 2 * ((4 : Nat) : Int))); rw [hk (b + 15 + 2 * ((4 : Nat) : Int)) 23 (by omega) (by decide) (by decide)]
    | 5, _ => show some (a 25) = some (ad (b + 15 + 2 * ((5 : Nat) : Int))); rw [hk (b + 15 + 2 * ((5 : Nat) : Int)) 25 (by omega) (by decide) (by decide)]
    | 6, _ => show some (a 27) = some (ad (b + 15 + 2 * ((6 : Nat) : Int))); rw [hk (b + 15 + 2 * ((6 : Nat) : Int)) 27 (by omega) (by decide) (by decide)]
    | 7, _ => show some (a 29) = some (ad (b + 15 + 2 * ((7 : Nat) : Int))); rw [hk (b + 15 + 2 * ((7 : Nat) : Int)) 29 (by omega) (by decide) (by decide)]
  · skip
    have q := hP 7 _ rfl
    show va_at D zCl (ad (b + 7), zE g ad (b + 7) (M (b + 7)) (F (b + 7))) H
    rw [zE_0 (zkB7 hb), hk (b + 7) 7 (by omega) (by decide) (by decide), hk (b + 7 + 1) 8 (by omega) (by decide) (by decide)]
    exact q
  · skip
    have q := hP 8 _ rfl
    show va_at D zCl (ad (b + 8), zE g ad (b + 8) (M (b + 8)) (F (b + 8))) H
    rw [zE_13 (zkB8 hb), zlB8 hb, hM 8 (by decide) (by decide) (by decide), hk (b + 8) 8 (by omega) (by decide) (by decide)]
    exact q
  · skip
    have q := hP 9 _ rfl
    show va_at D zCl (ad (b + 9), zE g ad (b + 9) (M (b + 9)) (F (b + 9))) H
    rw [zE_4 (zkB9 hb), hM 9 (by decide) (by decide) (by decide), hk (b + 9) 9 (by omega) (by decide) (by decide)]
    exact q
  · skip
    have q := hP 10 _ rfl
    show va_at D zCl (ad (b + 10), zE g ad (b + 10) (M (b + 10)) (F (b + 10))) H
    rw [zE_4 (zkB10 hb), hM 10 (by decide) (by decide) (by decide), hk (b + 10) 10 (by omega) (by decide) (by decide)]
    exact q
  · skip
    have q := hP 11 _ rfl
    show va_at D zCl (ad (b + 11), zE g ad (b + 11) (M (b + 11)) (F (b + 11))) H
    rw [zE_4 (zkB11 hb), hM 11 (by decide) (by decide) (by decide), hk (b + 11) 11 (by omega) (by decide) (by decide)]
    exact q
  · skip
    have q := hP 12 _ rfl
    show va_at D zCl (ad (b + 12), zE g ad (b + 12) (M (b + 12)) (F (b + 12))) H
    rw [zE_4 (zkB12 hb), hM 12 (by decide) (by decide) (by decide), hk (b + 12) 12 (by omega) (by decide) (by decide)]
    exact q
  · skip
    have q := hP 13 _ rfl
    show va_at D zCl (ad (b + 13), zE g ad (b + 13) (M (b + 13)) (F (b + 13))) H
    rw [zE_4 (zkB13 hb), hM 13 (by decide) (by decide) (by decide), hk (b + 13) 13 (by omega) (by decide) (by decide)]
    exact q
  · skip
    have q := hP 14 _ rfl
    show va_at D zCl (ad (b + 14), zE g ad (b + 14) (M (b + 14)) (F (b + 14))) H
    rw [zE_4 (zkB14 hb), hM 14 (by decide) (by decide) (by decide), hk (b + 14) 14 (by omega) (by decide) (by decide)]
    exact q
  · skip
    have q := hP 15 _ rfl
    show va_at D zCl (ad (b + 15), zE g ad (b + 15) (M (b + 15)) (F (b + 15))) H
    rw [zE_6 (zkB15 hb), hM 15 (by decide) (by decide) (by decide), hk (b + 15) 15 (by omega) (by decide) (by decide), hk (b + 15 + 1) 16 (by omega) (by decide) (by decide)]
    exact q
  · skip
    have q := hP 16 _ rfl
    show va_at D zCl (ad (b + 16), zE g ad (b + 16) (M (b + 16)) (F (b + 16))) H
    rw [zE_13 (zkB16 hb), zlB16 hb, hM 16 (by decide) (by decide) (by decide), hk (b + 16) 16 (by omega) (by decide) (by decide)]
    exact q
  · skip
    have q := hP 17 _ rfl
    show va_at D zCl (ad (b + 17), zE g ad (b + 17) (M (b + 17)) (F (b + 17))) H
    rw [zE_6 (zkB17 hb), hM 17 (by decide) (by decide) (by decide), hk (b + 17) 17 (by omega) (by decide) (by decide), hk (b + 17 + 1) 18 (by omega) (by decide) (by decide)]
    exact q
  · skip
    have q := hP 18 _ rfl
    show va_at D zCl (ad (b + 18), zE g ad (b + 18) (M (b + 18)) (F (b + 18))) H
    rw [zE_13 (zkB18 hb), zlB18 hb, hM 18 (by decide) (by decide) (by decide), hk (b + 18) 18 (by omega) (by decide) (by decide)]
    exact q
  · skip
    have q := hP 19 _ rfl
    show va_at D zCl (ad (b + 19), zE g ad (b + 19) (M (b + 19)) (F (b + 19))) H
    rw [zE_6 (zkB19 hb), hM 19 (by decide) (by decide) (by decide), hk (b + 19) 19 (by omega) (by decide) (by decide), hk (b + 19 + 1) 20 (by omega) (by decide) (by decide)]
    exact q
  · skip
    have q := hP 20 _ rfl
    show va_at D zCl (ad (b + 20), zE g ad (b + 20) (M (b + 20)) (F (b + 20))) H
    rw [zE_13 (zkB20 hb), zlB20 hb, hM 20 (by decide) (by decide) (by decide), hk (b + 20) 20 (by omega) (by decide) (by decide)]
    exact q
  · skip
    have q := hP 21 _ rfl
    show va_at D zCl (ad (b + 21), zE g ad (b + 21) (M (b + 21)) (F (b + 21))) H
    rw [zE_6 (zkB21 hb), hM 21 (by decide) (by decide) (by decide), hk (b + 21) 21 (by omega) (by decide) (by decide), hk (b + 21 + 1) 22 (by omega) (by decide) (by decide)]
    exact q
  · skip
    have q := hP 22 _ rfl
    show va_at D zCl (ad (b + 22), zE g ad (b + 22) (M (b + 22)) (F (b + 22))) H
    rw [zE_13 (zkB22 hb), zlB22 hb, hM 22 (by decide) (by decide) (by decide), hk (b + 22) 22 (by omega) (by decide) (by decide)]
    exact q
  · skip
    have q := hP 23 _ rfl
    show va_at D zCl (ad (b + 23), zE g ad (b + 23) (M (b + 23)) (F (b + 23))) H
    rw [zE_6 (zkB23 hb), hM 23 (by decide) (by decide) (by decide), hk (b + 23) 23 (by omega) (by decide) (by decide), hk (b + 23 + 1) 24 (by omega) (by decide) (by decide)]
    exact q
  · skip
    have q := hP 24 _ rfl
    show va_at D zCl (ad (b + 24), zE g ad (b + 24) (M (b + 24)) (F (b + 24))) H
    rw [zE_13 (zkB24 hb), zlB24 hb, hM 24 (by decide) (by decide) (by decide), hk (b + 24) 24 (by omega) (by decide) (by decide)]
    exact q
  · skip
    have q := hP 25 _ rfl
    show va_at D zCl (ad (b + 25), zE g ad (b + 25) (M (b + 25)) (F (b + 25))) H
    rw [zE_6 (zkB25 hb), hM 25 (by decide) (by decide) (by decide), hk (b + 25) 25 (by omega) (by decide) (by decide), hk (b + 25 + 1) 26 (by omega) (by decide) (by decide)]
    exact q
  · skip
    have q := hP 26 _ rfl
    show va_at D zCl (ad (b + 26), zE g ad (b + 26) (M (b + 26)) (F (b + 26))) H
    rw [zE_13 (zkB26 hb), zlB26 hb, hM 26 (by decide) (by decide) (by decide), hk (b + 26) 26 (by omega) (by decide) (by decide)]
    exact q
  · skip
    have q := hP 27 _ rfl
    show va_at D zCl (ad (b + 27), zE g ad (b + 27) (M (b + 27)) (F (b + 27))) H
    rw [zE_6 (zkB27 hb), hM 27 (by decide) (by decide) (by decide), hk (b + 27) 27 (by omega) (by decide) (by decide), hk (b + 27 + 1) 28 (by omega) (by decide) (by decide)]
    exact q
  · skip
    have q := hP 28 _ rfl
    show va_at D zCl (ad (b + 28), zE g ad (b + 28) (M (b + 28)) (F (b + 28))) H
    rw [zE_13 (zkB28 hb), zlB28 hb, hM 28 (by decide) (by decide) (by decide), hk (b + 28) 28 (by omega) (by decide) (by decide)]
    exact q
  · skip
    have q := hP 29 _ rfl
    show va_at D zCl (ad (b + 29), zE g ad (b + 29) (M (b + 29)) (F (b + 29))) H
    rw [zE_6 (zkB29 hb), hM 29 (by decide) (by decide) (by decide), hk (b + 29) 29 (by omega) (by decide) (by decide), hk (b + 29 + 1) 30 (by omega) (by decide) (by decide)]
    exact q
  · skip
    have q := hP 30 _ rfl
    show va_at D zCl (ad (b + 30), zE g ad (b + 30) (M (b + 30)) (F (b + 30))) H
    rw [zE_13 (zkB30 hb), zlB30 hb, hM 30 (by decide) (by decide) (by decide), hk (b + 30) 30 (by omega) (by decide) (by decide)]
    exact q
def mW (g : zG) (b0 : Nat) (q : Nat → Nat) (a : Nat → Nat → Nat) (R : Nat → Int → Int) (qh : Nat) (bs : Nat → Nat) (ah : Nat → Nat → Nat) (Rh : Nat → Int → Int) (ar : Nat → Nat) (qs : Nat) : va_W := dwk g b0 q a R qh bs ah Rh ar qs
set_option maxRecDepth 1000000 in
set_option maxHeartbeats 4000000 in
theorem mW_ad {g : zG} {b0 : Nat} {q : Nat → Nat} {a : Nat → Nat → Nat} {R : Nat → Int → Int} {qh : Nat} {bs : Nat → Nat} {ah : Nat → Nat → Nat} {Rh : Nat → Int → Int} {ar : Nat → Nat} {qs : Nat} : (mW g b0 q a R qh bs ah Rh ar qs).map Prod.fst = (List.range 398).map (fun (k : Nat) => (mAd b0 q a qh bs ah ar qs) (k : Int)) := rfl
theorem mW_s1 {g : zG} {b0 : Nat} {q : Nat → Nat} {a : Nat → Nat → Nat} {R : Nat → Int → Int} {qh : Nat} {bs : Nat → Nat} {ah : Nat → Nat → Nat} {Rh : Nat → Int → Int} {ar : Nat → Nat} {qs : Nat} {D : va_G} {H : Heap} (t : Nat) (ht : t < 3) (hR : ∀ x y, zc8 x → zc8 y → R t (8 * x + y) = zBF (fun _ => 0) x y) (hP : va_P D zCl (sbk g (q t) (a t) (R t)) H) : ∀ j : Nat, j < 31 → va_at D zCl ((mAd b0 q a qh bs ah ar qs) (1 + 31 * (t : Int) + (j : Int)), zE g (mAd b0 q a qh bs ah ar qs) (1 + 31 * (t : Int) + (j : Int)) (mM (1 + 31 * (t : Int) + (j : Int))) (mF (1 + 31 * (t : Int) + (j : Int)))) H :=
  sb_pl (b := 1 + 31 * (t : Int)) (Or.inl (by omega)) (mAd_1 t 0 ht (by decide) (by omega)) (fun j h1 h2 => (mAd_1 t j ht h2 rfl).trans (if_neg (by omega))) (mM_0 (by omega) (by omega) (by omega) (by omega)) (fun j h1 h2 h3 => mM_0 (by omega) (by omega) (by omega) (by omega)) (funext fun j => if_pos (by omega)) (funext fun p => (if_pos (by omega)).trans (by omega)) hR hP
theorem mW_s2 {g : zG} {b0 : Nat} {q : Nat → Nat} {a : Nat → Nat → Nat} {R : Nat → Int → Int} {qh : Nat} {bs : Nat → Nat} {ah : Nat → Nat → Nat} {Rh : Nat → Int → Int} {ar : Nat → Nat} {qs : Nat} {D : va_G} {H : Heap} (t : Nat) (ht : t < 9) (hR : ∀ x y, zc8 x → zc8 y → Rh t (8 * x + y) = zBF (fun _ => 0) x y) (hP : va_P D zCl (sbk g (bs t) (ah t) (Rh t)) H) : ∀ j : Nat, j < 31 → va_at D zCl ((mAd b0 q a qh bs ah ar qs) (96 + 31 * (t : Int) + (j : Int)), zE g (mAd b0 q a qh bs ah ar qs) (96 + 31 * (t : Int) + (j : Int)) (mM (96 + 31 * (t : Int) + (j : Int))) (mF (96 + 31 * (t : Int) + (j : Int)))) H :=
  sb_pl (b := 96 + 31 * (t : Int)) (Or.inr ⟨t, by omega, by omega, rfl⟩) (mAd_2 t 0 ht (by decide) (by omega)) (fun j h1 h2 => (mAd_2 t j ht h2 rfl).trans (if_neg (by omega))) (mM_0 (by omega) (by omega) (by omega) (by omega)) (fun j h1 h2 h3 => mM_0 (by omega) (by omega) (by omega) (by omega)) (funext fun j => if_pos (by omega)) (funext fun p => (if_pos (by omega)).trans (by omega)) hR hP
set_option maxRecDepth 100000 in
set_option maxHeartbeats 4000000 in
theorem mW_P {g : zG} {b0 : Nat} {q : Nat → Nat} {a : Nat → Nat → Nat} {R : Nat → Int → Int} {qh : Nat} {bs : Nat → Nat} {ah : Nat → Nat → Nat} {Rh : Nat → Int → Int} {ar : Nat → Nat} {qs : Nat} {D : va_G} {H : Heap} (hR : ∀ k, k < 3 → ∀ x y, zc8 x → zc8 y → R k (8 * x + y) = zBF (fun _ => 0) x y) (hRh : ∀ k, k < 9 → ∀ x y, zc8 x → zc8 y → Rh k (8 * x + y) = zBF (fun _ => 0) x y) (hP : va_P D zCl (mW g b0 q a R qh bs ah Rh ar qs) H) : ∀ k : Nat, k < 398 → va_at D zCl ((mAd b0 q a qh bs ah ar qs) (k : Int), zE g (mAd b0 q a qh bs ah ar qs) (k : Int) (mM (k : Int)) (mF (k : Int))) H := by
  have hDw : va_P D zCl (dwk g b0 q a R qh bs ah Rh ar qs) H := hP
  have hSB := hDw.r
  have hRd := hDw.l.r
  have hHb : va_P D zCl (hbk g (q 3) qh bs ah Rh) H := hDw.l.l.r
  have hS : ∀ t, t < 3 → va_P D zCl (sbk g (q t) (a t) (R t)) H := fun t ht => match t, ht with
    | 0, _ => hDw.l.l.l.l.l.r
    | 1, _ => hDw.l.l.l.l.r
    | 2, _ => hDw.l.l.l.r
  have hE := hDw.l.l.l.l.l.l
  have hH0 := hHb.l.l.l.l.l.l.l.l.l
  have hHs : ∀ t, t < 9 → va_P D zCl (sbk g (bs t) (ah t) (Rh t)) H := fun t ht => match t, ht with
    | 0, _ => hHb.l.l.l.l.l.l.l.l.r
    | 1, _ => hHb.l.l.l.l.l.l.l.r
    | 2, _ => hHb.l.l.l.l.l.l.r
    | 3, _ => hHb.l.l.l.l.l.r
    | 4, _ => hHb.l.l.l.l.r
    | 5, _ => hHb.l.l.l.r
    | 6, _ => hHb.l.l.r
    | 7, _ => hHb.l.r
    | 8, _ => hHb.r
  intro k hk
  have hcs : k = 0 ∨ (1 ≤ k ∧ k < 94) ∨ k = 94 ∨ k = 95 ∨ (96 ≤ k ∧ k < 375) ∨ k = 375 ∨ k = 376 ∨ k = 377 ∨ k = 378 ∨ k = 379 ∨ k = 380 ∨ k = 381 ∨ k = 382 ∨ k = 383 ∨ k = 384 ∨ k = 385 ∨ k = 386 ∨ k = 387 ∨ k = 388 ∨ k = 389 ∨ k = 390 ∨ k = 391 ∨ k = 392 ∨ k = 393 ∨ k = 394 ∨ k = 395 ∨ k = 396 ∨ k = 397 := by omega
  rcases hcs with rfl | h | rfl | rfl | h | rfl | rfl | rfl | rfl | rfl | rfl | rfl | rfl | rfl | rfl | rfl | rfl | rfl | rfl | rfl | rfl | rfl | rfl | rfl | rfl | rfl | rfl | rfl
  · exact hE 0 _ rfl
  · have q := mW_s1 (g := g) (b0 := b0) (Rh := Rh) (qh := qh) (bs := bs) (ah := ah) (ar := ar) (qs := qs) ((k - 1) / 31) (by omega) (hR _ (by omega)) (hS _ (by omega)) ((k - 1) % 31) (by omega)
    rw [show 1 + 31 * (((k - 1) / 31 : Nat) : Int) + (((k - 1) % 31 : Nat) : Int) = (k : Int) by omega] at q
    exact q
  · exact hH0 0 _ rfl
  · refine va_refs (n := 9) (hH0 1 _ rfl) (fun j hj => ?_)
    match j, hj with
    | 0, _ => rfl
    | 1, _ => rfl
    | 2, _ => rfl
    | 3, _ => rfl
    | 4, _ => rfl
    | 5, _ => rfl
    | 6, _ => rfl
    | 7, _ => rfl
    | 8, _ => rfl
  · have q := mW_s2 (g := g) (b0 := b0) (R := R) (q := q) (a := a) (qh := qh) (ar := ar) (qs := qs) ((k - 96) / 31) (by omega) (hRh _ (by omega)) (hHs _ (by omega)) ((k - 96) % 31) (by omega)
    rw [show 96 + 31 * (((k - 96) / 31 : Nat) : Int) + (((k - 96) % 31 : Nat) : Int) = (k : Int) by omega] at q
    exact q
  · exact hRd 0 _ rfl
  · exact hRd 1 _ rfl
  · refine va_refs (n := 9) (hRd 2 _ rfl) (fun j hj => ?_)
    match j, hj with
    | 0, _ => rfl
    | 1, _ => rfl
    | 2, _ => rfl
    | 3, _ => rfl
    | 4, _ => rfl
    | 5, _ => rfl
    | 6, _ => rfl
    | 7, _ => rfl
    | 8, _ => rfl
  · exact hRd 3 _ rfl
  · exact hRd 4 _ rfl
  · exact hRd 5 _ rfl
  · exact hRd 6 _ rfl
  · exact hRd 7 _ rfl
  · exact hRd 8 _ rfl
  · exact hRd 9 _ rfl
  · exact hRd 10 _ rfl
  · exact hRd 11 _ rfl
  · exact hRd 12 _ rfl
  · exact hRd 13 _ rfl
  · exact hRd 14 _ rfl
  · exact hRd 15 _ rfl
  · exact hRd 16 _ rfl
  · exact hRd 17 _ rfl
  · exact hRd 18 _ rfl
  · exact hRd 19 _ rfl
  · exact hRd 20 _ rfl
  · exact hSB 0 _ rfl
  · exact hSB 1 _ rfl
/-- the first world, with its addresses -/
theorem mW_zW {g : zG} {b0 : Nat} {q : Nat → Nat} {a : Nat → Nat → Nat} {R : Nat → Int → Int} {qh : Nat} {bs : Nat → Nat} {ah : Nat → Nat → Nat} {Rh : Nat → Int → Int} {ar : Nat → Nat} {qs : Nat} {A : Nat → Prop} {H0 H : Heap} {locs : List Loc} (hR : ∀ k, k < 3 → ∀ x y, zc8 x → zc8 y → R k (8 * x + y) = zBF (fun _ => 0) x y) (hRh : ∀ k, k < 9 → ∀ x y, zc8 x → zc8 y → Rh k (8 * x + y) = zBF (fun _ => 0) x y) (Wd : rW g A H0 (mW g b0 q a R qh bs ah Rh ar qs) H locs) : zW g A H0 (0, 398, []) (mAd b0 q a qh bs ah ar qs) mM mF H locs := by
  obtain ⟨hP, hD, hS⟩ := Wd
  have hcells := mW_P hR hRh hP
  have hmap : (wl g (0, 398, []) (mAd b0 q a qh bs ah ar qs) mM mF).map Prod.fst = (mW g b0 q a R qh bs ah Rh ar qs).map Prod.fst := by
    rw [mW_ad]
    show ((wlC g (0, 398, []) (mAd b0 q a qh bs ah ar qs) mM mF) ++ []).map Prod.fst = _
    rw [List.append_nil]
    unfold wlC
    rw [List.map_map]
    refine List.map_congr_left (fun k _ => ?_)
    show (mAd b0 q a qh bs ah ar qs) (0 + (k : Int)) = (mAd b0 q a qh bs ah ar qs) (k : Int)
    rw [Int.zero_add]
  refine ⟨⟨va_P_mem.mpr (fun x hx => ?_), va_D_nd.mpr ⟨by rw [hmap]; exact (va_D_nd.mp hD).1, fun x hx => ?_⟩, hS⟩, mM_R⟩
  · obtain ⟨k, hk⟩ := List.getElem?_of_mem hx
    rcases wl_at hk with ⟨i, hi, rfl⟩ | h
    · obtain ⟨h0, h1⟩ : 0 ≤ i ∧ i < 398 := hi
      have := hcells i.toNat (by omega)
      rw [show ((i.toNat : Nat) : Int) = i by omega] at this
      exact this
    · exact absurd h (by simp)
  · have h1 : x.1 ∈ (mW g b0 q a R qh bs ah Rh ar qs).map Prod.fst := by
      rw [← hmap]
      exact List.mem_map_of_mem hx
    obtain ⟨y, hy, e⟩ := List.mem_map.mp h1
    rw [← e]
    exact (va_D_nd.mp hD).2 y hy
/-! class and model agree at the start -/
abbrev z00 : Int → Int := fun _ => 0
theorem zGd_0 : zGd 0 z00 := by
  refine ⟨⟨⟨by decide, by decide⟩, ⟨by decide, by decide⟩, ⟨by decide, by decide⟩, fun _ _ _ => ⟨(by show (0 : Int) ≤ 0; decide), (by show (0 : Int) ≤ 0; decide)⟩, fun _ _ _ => ⟨(by show (0 : Int) ≤ 0; decide), (by show (0 : Int) ≤ 9; decide)⟩, fun h h0 h1 => ?_, fun p p0 p1 => ?_, fun _ _ _ => ⟨(by show (0 : Int) ≤ 0; decide), (by show (0 : Int) ≤ 0; decide)⟩⟩, fun p p0 p1 => ?_, ?_⟩
  · exact absurd (show h < 0 from h1) (by omega)
  · exact absurd (show p < 0 from p1) (by omega)
  · exact absurd (show p < 0 from p1) (by omega)
  · refine ⟨fun p q c p0 p1 => ?_, fun _ _ _ _ _ => rfl, fun p q c p0 p1 => ?_, fun p q p0 pq q1 => ?_, fun h h0 h1 => ?_, fun p q p0 pq q1 => ?_, ⟨fun _ _ _ _ => rfl, fun _ _ _ _ _ => rfl⟩⟩
    · exact absurd (show p < 0 from p1) (by omega)
    · exact absurd (show p < 0 from p1) (by omega)
    · exact absurd (show q < 0 from q1) (by omega)
    · exact absurd (show h < 0 from h1) (by omega)
    · exact absurd (show q < 0 from q1) (by omega)
theorem zRp_0 {b : Int} (hb : zB b) : zRp b mF := by
  have e : ∀ p, mF (b + 6) p = b + 15 + 2 * p := fun p => by
    unfold mF
    rw [if_pos]
    · omega
    · rcases hb with (rfl | rfl | rfl) | ⟨t, t0, t9, rfl⟩
      · exact Or.inl ⟨by omega, by omega, by omega⟩
      · exact Or.inl ⟨by omega, by omega, by omega⟩
      · exact Or.inl ⟨by omega, by omega, by omega⟩
      · exact Or.inr ⟨by omega, by omega, by omega⟩
  refine ⟨fun p h => ⟨hb, p, h.1, h.2, e p⟩, fun p q h1 h2 h => ?_⟩
  rw [e, e] at h
  omega
theorem mM_S {i : Int} (h : 1 ≤ i ∧ i < 32 ∧ i ≠ 4) (j : Int) : mM i j = 0 := by rw [mM_0 (by omega) (by omega) (by omega) (by omega)]
theorem zRS_0 : zRS 1 z00 mM mF := by
  refine ⟨⟨?_, ?_, ?_, ?_, ?_, ?_, ?_, ?_, ?_⟩, fun i i0 i1 => mM_S (by omega) _, fun a c ha hc => ?_, fun h h0 h1 => ?_, zRp_0 (Or.inl (Or.inl rfl)), fun p p0 p1 => ?_, fun c t hc t0 t1 => mM_S (by omega) _⟩
  · exact mM_S (by omega) _
  · rw [mM_S (by omega)]; decide +kernel
  · exact mM_S (by omega) _
  · exact mM_S (by omega) _
  · exact mM_S (by omega) _
  · exact mM_S (by omega) _
  · exact mM_S (by omega) _
  · exact mM_S (by omega) _
  · exact mM_S (by omega) _
  · show mM (1 + 3) (8 * a + c) = zBF z00 a c
    unfold mM
    rw [if_pos (by omega)]
    unfold wz
    rw [if_pos (by omega), show (8 * a + c) / 8 = a by omega, show (8 * a + c) % 8 = c by omega]
  · exact absurd (show h < 0 from h1) (by omega)
  · exact absurd (show p < 0 from p1) (by omega)
theorem mM_m {i : Int} (h : 376 ≤ i) (h2 : i ≠ 398) (j : Int) : mM i j = 0 := by rw [mM_0 (by omega) (by omega) (by omega) (by omega)]
theorem mM_398 {j : Int} (h : j ≠ 15) (h2 : j ≠ 16) : mM 398 j = 0 := by
  unfold mM
  rw [if_neg (by omega), if_neg (by omega)]
theorem zNn_0 : zNn z00 := ⟨fun p p0 p1 => absurd (show p < 0 from p1) (by omega), fun p p0 p1 => absurd (show p < 0 from p1) (by omega), fun p p0 p1 => absurd (show p < 0 from p1) (by omega), rfl⟩
theorem zLw_0 : zLw 0 0 z00 (fun _ => z00) mM mF := by
  refine ⟨zRS_0, zRp_0 (Or.inl (Or.inr (Or.inl rfl))), ⟨?_, ?_, ⟨by decide, by decide⟩, fun k k0 k1 => by omega, fun t t0 t9 => zRp_0 (Or.inr ⟨t, t0, t9, rfl⟩)⟩, ⟨by decide, zGd_0, zNn_0⟩, fun k k0 k1 => by omega, ⟨fun _ => 0, 0, ⟨funext fun j => mM_m (by omega) (by omega) j, ?_, by decide, by decide⟩, fun _ => ⟨(by show (0 : Int) ≤ 0; decide), (by show (0 : Int) < 65536; decide)⟩⟩, ⟨mM_m (by omega) (by omega) _, by rw [mM_m (by omega) (by omega)]; decide, fun j j0 j1 => ?_⟩⟩
  · rw [mM_0 (by omega) (by omega) (by omega) (by omega)]
  · rw [mM_0 (by omega) (by omega) (by omega) (by omega)]
    exact ⟨by decide, by decide⟩
  · unfold mM
    rw [if_neg (by omega), if_neg (by omega)]
  · rw [mM_m (by omega) (by omega)] at j1
    omega
/-- the constructor's cells are the first world -/
theorem dw_zW {g : zG} {A : Nat → Prop} {H0 H : Heap} {locs : List Loc} {b0 : Nat} {q : Nat → Nat} {a : Nat → Nat → Nat} {R : Nat → Int → Int} {qh : Nat} {bs : Nat → Nat} {ah : Nat → Nat → Nat} {Rh : Nat → Int → Int} {ar : Nat → Nat} {qs : Nat} (hR : ∀ k, k < 3 → ∀ x y, zc8 x → zc8 y → R k (8 * x + y) = zBF (fun _ => 0) x y) (hRh : ∀ k, k < 9 → ∀ x y, zc8 x → zc8 y → Rh k (8 * x + y) = zBF (fun _ => 0) x y) (Wd : rW g A H0 (dwk g b0 q a R qh bs ah Rh ar qs) H locs) : ∃ (ad : Int → Nat) (M F : zMem), ad 0 = b0 ∧ zW g A H0 (0, 398, []) ad M F H locs ∧ zLw 0 0 z00 (fun _ => z00) M F :=
  ⟨_, _, _, rfl, mW_zW hR hRh Wd, zLw_0⟩
