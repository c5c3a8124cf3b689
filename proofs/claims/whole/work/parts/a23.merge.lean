/-! the first world -/
theorem va_refs {D : va_G} {cl : List vw_C} {H : Heap} {x n : Nat} {cid : ClassId} {f f' : Nat → Option Nat} (h : va_at D cl (x, .inl (cid, n, .inr (.inr (.inr (.inr f))))) H) (e : ∀ j, j < n → f j = f' j) : va_at D cl (x, .inl (cid, n, .inr (.inr (.inr (.inr f'))))) H := by
  have h : H[x]? = some (arrV cid n (fun j => va_rf (f j))) := h
  show H[x]? = some (arrV cid n (fun j => va_rf (f' j)))
  rw [h, arrV_ext (fun j hj => by rw [e j hj])]
theorem va_ints {D : va_G} {cl : List vw_C} {H : Heap} {x n : Nat} {cid : ClassId} {f f' : Nat → Int32} (h : va_at D cl (x, .inl (cid, n, .inl f)) H) (e : ∀ j, j < n → f j = f' j) : va_at D cl (x, .inl (cid, n, .inl f')) H := by
  have h : H[x]? = some (arrV cid n (fun j => .int (f j))) := h
  show H[x]? = some (arrV cid n (fun j => .int (f' j)))
  rw [h, arrV_ext (fun j hj => by rw [e j hj])]
theorem va_P.l {D : va_G} {cl : List vw_C} {H : Heap} {w1 w2 : va_W} (h : va_P D cl (w1 ++ w2) H) : va_P D cl w1 H := fun k q hq => h k q (by rw [List.getElem?_append_left (List.getElem?_eq_some_iff.mp hq).1]; exact hq)
theorem va_P.r {D : va_G} {cl : List vw_C} {H : Heap} {w1 w2 : va_W} (h : va_P D cl (w1 ++ w2) H) : va_P D cl w2 H := fun k q hq => h (w1.length + k) q (by rw [List.getElem?_append_right (by omega), show w1.length + k - w1.length = k by omega]; exact hq)
/-- the way delays of an empty burrow -/
def wz : Int → Int := fun j => if 0 ≤ j ∧ j < 64 then zBF (fun _ => 0) (j / 8) (j % 8) else 0
theorem wz_is {R : Int → Int} (hR : ∀ x y, zc8 x → zc8 y → R (8 * x + y) = zBF (fun _ => 0) x y) (j : Nat) (hj : j < 64) : R (j : Int) = wz (j : Int) := by
  unfold wz
  rw [if_pos (by omega), ← hR ((j : Int) / 8) ((j : Int) % 8) ⟨by omega, by omega⟩ ⟨by omega, by omega⟩, show 8 * ((j : Int) / 8) + (j : Int) % 8 = (j : Int) by omega]
theorem wz_R (j : Int) : zR (wz j) := by
  unfold wz
  split
  · have := zBF_bd (V := fun _ => 0) (a := j / 8) (fun _ _ _ => ⟨by decide, by decide⟩) (j % 8) (by omega) (by omega)
    exact ⟨by omega, by omega⟩
  · exact zR_0
def mM : zMem := fun i j => if (1 ≤ i ∧ i < 94 ∧ (i - 1) % 31 = 3) ∨ (96 ≤ i ∧ i < 375 ∧ (i - 96) % 31 = 3) then wz j else if (i = 0 ∧ (j = 7 ∨ j = 8)) ∨ (i = 375 ∧ j = 4) ∨ (i = 398 ∧ (j = 15 ∨ j = 16)) then -1 else 0
def mF : zMem := fun i p => if (1 ≤ i ∧ i < 94 ∧ (i - 1) % 31 = 6) ∨ (96 ≤ i ∧ i < 375 ∧ (i - 96) % 31 = 6) then i + 9 + 2 * p else if 378 ≤ i ∧ i < 396 then 10 else 0
theorem mM_0 {i : Int} (h1 : ¬ ((1 ≤ i ∧ i < 94 ∧ (i - 1) % 31 = 3) ∨ (96 ≤ i ∧ i < 375 ∧ (i - 96) % 31 = 3))) (h2 : i ≠ 0) (h3 : i ≠ 375) (h4 : i ≠ 398) : mM i = fun _ => 0 := funext fun j => by
  unfold mM
  rw [if_neg h1, if_neg (by omega)]
theorem mM_R : zRM mM := fun i j => by
  unfold mM
  split
  · exact wz_R j
  · split
    · exact ⟨by decide, by decide⟩
    · exact zR_0
def mSt (b' : Nat) (a : Nat → Nat) (j : Nat) : Nat := if j = 0 then b' else a j
def mAd (b0 : Nat) (q : Nat → Nat) (a : Nat → Nat → Nat) (qh : Nat) (bs : Nat → Nat) (ah : Nat → Nat → Nat) (ar : Nat → Nat) (qs mb : Nat) (ma : Nat → Nat) (o1 o2 : Nat) : Int → Nat := fun i =>
  if i = 0 then b0 else if i < 94 then mSt (q ((i - 1) / 31).toNat) (a ((i - 1) / 31).toNat) ((i - 1) % 31).toNat else if i = 94 then q 3 else if i = 95 then qh
  else if i < 375 then mSt (bs ((i - 96) / 31).toNat) (ah ((i - 96) / 31).toNat) ((i - 96) % 31).toNat else if i < 396 then mSt (q 4) ar (i - 375).toNat
  else if i = 396 then q 5 else if i = 397 then qs else if i = 398 then mb else if i < 408 then ma (i - 399).toNat else if i = 408 then o1 else o2
theorem mAd_1 {b0 : Nat} {q : Nat → Nat} {a : Nat → Nat → Nat} {qh : Nat} {bs : Nat → Nat} {ah : Nat → Nat → Nat} {ar : Nat → Nat} {qs mb : Nat} {ma : Nat → Nat} {o1 o2 : Nat} {x : Int} (t j : Nat) (ht : t < 3) (hj : j < 31) (e : x = 1 + 31 * (t : Int) + (j : Int)) : mAd b0 q a qh bs ah ar qs mb ma o1 o2 x = mSt (q t) (a t) j := by
  subst e
  unfold mAd
  rw [if_neg (by omega), if_pos (by omega), show ((1 + 31 * (t : Int) + (j : Int) - 1) / 31).toNat = t by omega, show ((1 + 31 * (t : Int) + (j : Int) - 1) % 31).toNat = j by omega]
theorem mAd_2 {b0 : Nat} {q : Nat → Nat} {a : Nat → Nat → Nat} {qh : Nat} {bs : Nat → Nat} {ah : Nat → Nat → Nat} {ar : Nat → Nat} {qs mb : Nat} {ma : Nat → Nat} {o1 o2 : Nat} {x : Int} (t j : Nat) (ht : t < 9) (hj : j < 31) (e : x = 96 + 31 * (t : Int) + (j : Int)) : mAd b0 q a qh bs ah ar qs mb ma o1 o2 x = mSt (bs t) (ah t) j := by
  subst e
  unfold mAd
  rw [if_neg (by omega), if_neg (by omega), if_neg (by omega), if_neg (by omega), if_pos (by omega), show ((96 + 31 * (t : Int) + (j : Int) - 96) / 31).toNat = t by omega, show ((96 + 31 * (t : Int) + (j : Int) - 96) % 31).toNat = j by omega]
theorem sb_pl {g : zG} {ad : Int → Nat} {M F : zMem} {b : Int} (hb : zB b) {b' : Nat} {a : Nat → Nat} {R : Int → Int} {D : va_G} {H : Heap} (h0 : ad b = b') (ha : ∀ j : Nat, 1 ≤ j → j < 31 → ad (b + (j : Int)) = a j) (hM0 : M b = fun _ => 0) (hM : ∀ j : Int, 1 ≤ j → j < 31 → j ≠ 3 → M (b + j) = fun _ => 0) (hM3 : M (b + 3) = wz) (hF : F (b + 6) = fun p => b + 15 + 2 * p) (hR : ∀ x y, zc8 x → zc8 y → R (8 * x + y) = zBF (fun _ => 0) x y) (hP : va_P D zCl (sbk g b' a R) H) : ∀ j : Nat, j < 31 → va_at D zCl (ad (b + (j : Int)), zE g ad (b + (j : Int)) (M (b + (j : Int))) (F (b + (j : Int)))) H := by
  have hk : ∀ (x : Int) (j : Nat), x = b + (j : Int) → 1 ≤ j → j < 31 → ad x = a j := fun x j e h1 h2 => by rw [e]; exact ha j h1 h2
  intro j hj
  have hc : j = 0 ∨ j = 1 ∨ j = 2 ∨ j = 3 ∨ j = 4 ∨ j = 5 ∨ j = 6 ∨ j = 7 ∨ j = 8 ∨ j = 9 ∨ j = 10 ∨ j = 11 ∨ j = 12 ∨ j = 13 ∨ j = 14 ∨ j = 15 ∨ j = 16 ∨ j = 17 ∨ j = 18 ∨ j = 19 ∨ j = 20 ∨ j = 21 ∨ j = 22 ∨ j = 23 ∨ j = 24 ∨ j = 25 ∨ j = 26 ∨ j = 27 ∨ j = 28 ∨ j = 29 ∨ j = 30 := by omega
  rcases hc with rfl | rfl | rfl | rfl | rfl | rfl | rfl | rfl | rfl | rfl | rfl | rfl | rfl | rfl | rfl | rfl | rfl | rfl | rfl | rfl | rfl | rfl | rfl | rfl | rfl | rfl | rfl | rfl | rfl | rfl | rfl
  · skip
    have q := hP 0 _ rfl
    rw [show b + ((0 : Nat) : Int) = b by omega, zE_7 (zkB0 hb), h0, hM0, hk (b + 1) 1 (by omega) (by decide) (by decide), hk (b + 5) 5 (by omega) (by decide) (by decide), hk (b + 6) 6 (by omega) (by decide) (by decide), hk (b + 7) 7 (by omega) (by decide) (by decide)]
    exact q
  · skip
    have q := hP 1 _ rfl
    show va_at D zCl (ad (b + 1), zE g ad (b + 1) (M (b + 1)) (F (b + 1))) H
    rw [zE_1 (zkB1 hb), hM 1 (by decide) (by decide) (by decide), hk (b + 1) 1 (by omega) (by decide) (by decide), hk (b + 1 + 1) 2 (by omega) (by decide) (by decide), hk (b + 1 + 2) 3 (by omega) (by decide) (by decide), hk (b + 1 + 3) 4 (by omega) (by decide) (by decide)]
    exact q
  · skip
    have q := hP 2 _ rfl
    show va_at D zCl (ad (b + 2), zE g ad (b + 2) (M (b + 2)) (F (b + 2))) H
    rw [zE_13 (zkB2 hb), zlB2 hb, hM 2 (by decide) (by decide) (by decide), hk (b + 2) 2 (by omega) (by decide) (by decide)]
    exact q
  · skip
    have q := hP 3 _ rfl
    show va_at D zCl (ad (b + 3), zE g ad (b + 3) (M (b + 3)) (F (b + 3))) H
    rw [zE_13 (zkB3 hb), zlB3 hb, hM3, hk (b + 3) 3 (by omega) (by decide) (by decide)]
    exact va_ints q (fun j hj => congrArg zI (wz_is hR j hj))
  · skip
    have q := hP 4 _ rfl
    show va_at D zCl (ad (b + 4), zE g ad (b + 4) (M (b + 4)) (F (b + 4))) H
    rw [zE_13 (zkB4 hb), zlB4 hb, hM 4 (by decide) (by decide) (by decide), hk (b + 4) 4 (by omega) (by decide) (by decide)]
    exact q
  · skip
    have q := hP 5 _ rfl
    show va_at D zCl (ad (b + 5), zE g ad (b + 5) (M (b + 5)) (F (b + 5))) H
    rw [zE_15 (zkB5 hb), zlB5 hb, hk (b + 5) 5 (by omega) (by decide) (by decide)]
    refine va_refs q (fun j hj => ?_)
    match j, hj with
    | 0, _ => show some (a 9) = some (ad (b + 5 + 4 + ((0 : Nat) : Int))); rw [hk (b + 5 + 4 + ((0 : Nat) : Int)) 9 (by omega) (by decide) (by decide)]
    | 1, _ => show some (a 10) = some (ad (b + 5 + 4 + ((1 : Nat) : Int))); rw [hk (b + 5 + 4 + ((1 : Nat) : Int)) 10 (by omega) (by decide) (by decide)]
    | 2, _ => show some (a 11) = some (ad (b + 5 + 4 + ((2 : Nat) : Int))); rw [hk (b + 5 + 4 + ((2 : Nat) : Int)) 11 (by omega) (by decide) (by decide)]
    | 3, _ => show some (a 12) = some (ad (b + 5 + 4 + ((3 : Nat) : Int))); rw [hk (b + 5 + 4 + ((3 : Nat) : Int)) 12 (by omega) (by decide) (by decide)]
    | 4, _ => show some (a 13) = some (ad (b + 5 + 4 + ((4 : Nat) : Int))); rw [hk (b + 5 + 4 + ((4 : Nat) : Int)) 13 (by omega) (by decide) (by decide)]
    | 5, _ => show some (a 14) = some (ad (b + 5 + 4 + ((5 : Nat) : Int))); rw [hk (b + 5 + 4 + ((5 : Nat) : Int)) 14 (by omega) (by decide) (by decide)]
  · skip
    have q := hP 6 _ rfl
    show va_at D zCl (ad (b + 6), zE g ad (b + 6) (M (b + 6)) (F (b + 6))) H
    rw [zE_16 (zkB6 hb), zlB6 hb, hF, hk (b + 6) 6 (by omega) (by decide) (by decide)]
    refine va_refs q (fun j hj => ?_)
    match j, hj with
    | 0, _ => show some (a 15) = some (ad (b + 15 + 2 * ((0 : Nat) : Int))); rw [hk (b + 15 + 2 * ((0 : Nat) : Int)) 15 (by omega) (by decide) (by decide)]
    | 1, _ => show some (a 17) = some (ad (b + 15 + 2 * ((1 : Nat) : Int))); rw [hk (b + 15 + 2 * ((1 : Nat) : Int)) 17 (by omega) (by decide) (by decide)]
    | 2, _ => show some (a 19) = some (ad (b + 15 + 2 * ((2 : Nat) : Int))); rw [hk (b + 15 + 2 * ((2 : Nat) : Int)) 19 (by omega) (by decide) (by decide)]
    | 3, _ => show some (a 21) = some (ad (b + 15 + 2 * ((3 : Nat) : Int))); rw [hk (b + 15 + 2 * ((3 : Nat) : Int)) 21 (by omega) (by decide) (by decide)]
    | 4, _ => show some (a 23) = some (ad (b + 15 + 2 * ((4 : Nat) : Int))); rw [hk (b + 15 + 2 * ((4 : Nat) : Int)) 23 (by omega) (by decide) (by decide)]
    | 5, _ => show some (a 25) = some (ad (b + 15 + 2 * ((5 : Nat) : Int))); rw [hk (b + 15 + 2 * ((5 : Nat) : Int)) 25 (by omega) (by decide) (by decide)]
    | 6, _ => show some (a 27) = some (ad (b + 15 + 2 * ((6 : Nat) : Int))); rw [hk (b + 15 + 2 * ((6 : Nat) : Int)) 27 (by omega) (by decide) (by decide)]
    | 7, _ => show some (a 29) = some (ad (b + 15 + 2 * ((7 : Nat) : Int))); rw [hk (b + 15 + 2 * ((7 : Nat) : Int)) 29 (by omega) (by decide) (by decide)]
  · skip
    have q := hP 7 _ rfl
    show va_at D zCl (ad (b + 7), zE g ad (b + 7) (M (b + 7)) (F (b + 7))) H
    rw [zE_0 (zkB7 hb), hk (b + 7) 7 (by omega) (by decide) (by decide), hk (b + 7 + 1) 8 (by omega) (by decide) (by decide)]
    exact q
  · skip
    have q := hP 8 _ rfl
    show va_at D zCl (ad (b + 8), zE g ad (b + 8) (M (b + 8)) (F (b + 8))) H
    rw [zE_13 (zkB8 hb), zlB8 hb, hM 8 (by decide) (by decide) (by decide), hk (b + 8) 8 (by omega) (by decide) (by decide)]
    exact q
  · skip
    have q := hP 9 _ rfl
    show va_at D zCl (ad (b + 9), zE g ad (b + 9) (M (b + 9)) (F (b + 9))) H
    rw [zE_4 (zkB9 hb), hM 9 (by decide) (by decide) (by decide), hk (b + 9) 9 (by omega) (by decide) (by decide)]
    exact q
  · skip
    have q := hP 10 _ rfl
    show va_at D zCl (ad (b + 10), zE g ad (b + 10) (M (b + 10)) (F (b + 10))) H
    rw [zE_4 (zkB10 hb), hM 10 (by decide) (by decide) (by decide), hk (b + 10) 10 (by omega) (by decide) (by decide)]
    exact q
  · skip
    have q := hP 11 _ rfl
    show va_at D zCl (ad (b + 11), zE g ad (b + 11) (M (b + 11)) (F (b + 11))) H
    rw [zE_4 (zkB11 hb), hM 11 (by decide) (by decide) (by decide), hk (b + 11) 11 (by omega) (by decide) (by decide)]
    exact q
  · skip
    have q := hP 12 _ rfl
    show va_at D zCl (ad (b + 12), zE g ad (b + 12) (M (b + 12)) (F (b + 12))) H
    rw [zE_4 (zkB12 hb), hM 12 (by decide) (by decide) (by decide), hk (b + 12) 12 (by omega) (by decide) (by decide)]
    exact q
  · skip
    have q := hP 13 _ rfl
    show va_at D zCl (ad (b + 13), zE g ad (b + 13) (M (b + 13)) (F (b + 13))) H
    rw [zE_4 (zkB13 hb), hM 13 (by decide) (by decide) (by decide), hk (b + 13) 13 (by omega) (by decide) (by decide)]
    exact q
  · skip
    have q := hP 14 _ rfl
    show va_at D zCl (ad (b + 14), zE g ad (b + 14) (M (b + 14)) (F (b + 14))) H
    rw [zE_4 (zkB14 hb), hM 14 (by decide) (by decide) (by decide), hk (b + 14) 14 (by omega) (by decide) (by decide)]
    exact q
  · skip
    have q := hP 15 _ rfl
    show va_at D zCl (ad (b + 15), zE g ad (b + 15) (M (b + 15)) (F (b + 15))) H
    rw [zE_6 (zkB15 hb), hM 15 (by decide) (by decide) (by decide), hk (b + 15) 15 (by omega) (by decide) (by decide), hk (b + 15 + 1) 16 (by omega) (by decide) (by decide)]
    exact q
  · skip
    have q := hP 16 _ rfl
    show va_at D zCl (ad (b + 16), zE g ad (b + 16) (M (b + 16)) (F (b + 16))) H
    rw [zE_13 (zkB16 hb), zlB16 hb, hM 16 (by decide) (by decide) (by decide), hk (b + 16) 16 (by omega) (by decide) (by decide)]
    exact q
  · skip
    have q := hP 17 _ rfl
    show va_at D zCl (ad (b + 17), zE g ad (b + 17) (M (b + 17)) (F (b + 17))) H
    rw [zE_6 (zkB17 hb), hM 17 (by decide) (by decide) (by decide), hk (b + 17) 17 (by omega) (by decide) (by decide), hk (b + 17 + 1) 18 (by omega) (by decide) (by decide)]
    exact q
  · skip
    have q := hP 18 _ rfl
    show va_at D zCl (ad (b + 18), zE g ad (b + 18) (M (b + 18)) (F (b + 18))) H
    rw [zE_13 (zkB18 hb), zlB18 hb, hM 18 (by decide) (by decide) (by decide), hk (b + 18) 18 (by omega) (by decide) (by decide)]
    exact q
  · skip
    have q := hP 19 _ rfl
    show va_at D zCl (ad (b + 19), zE g ad (b + 19) (M (b + 19)) (F (b + 19))) H
    rw [zE_6 (zkB19 hb), hM 19 (by decide) (by decide) (by decide), hk (b + 19) 19 (by omega) (by decide) (by decide), hk (b + 19 + 1) 20 (by omega) (by decide) (by decide)]
    exact q
  · skip
    have q := hP 20 _ rfl
    show va_at D zCl (ad (b + 20), zE g ad (b + 20) (M (b + 20)) (F (b + 20))) H
    rw [zE_13 (zkB20 hb), zlB20 hb, hM 20 (by decide) (by decide) (by decide), hk (b + 20) 20 (by omega) (by decide) (by decide)]
    exact q
  · skip
    have q := hP 21 _ rfl
    show va_at D zCl (ad (b + 21), zE g ad (b + 21) (M (b + 21)) (F (b + 21))) H
    rw [zE_6 (zkB21 hb), hM 21 (by decide) (by decide) (by decide), hk (b + 21) 21 (by omega) (by decide) (by decide), hk (b + 21 + 1) 22 (by omega) (by decide) (by decide)]
    exact q
  · skip
    have q := hP 22 _ rfl
    show va_at D zCl (ad (b + 22), zE g ad (b + 22) (M (b + 22)) (F (b + 22))) H
    rw [zE_13 (zkB22 hb), zlB22 hb, hM 22 (by decide) (by decide) (by decide), hk (b + 22) 22 (by omega) (by decide) (by decide)]
    exact q
  · skip
    have q := hP 23 _ rfl
    show va_at D zCl (ad (b + 23), zE g ad (b + 23) (M (b + 23)) (F (b + 23))) H
    rw [zE_6 (zkB23 hb), hM 23 (by decide) (by decide) (by decide), hk (b + 23) 23 (by omega) (by decide) (by decide), hk (b + 23 + 1) 24 (by omega) (by decide) (by decide)]
    exact q
  · skip
    have q := hP 24 _ rfl
    show va_at D zCl (ad (b + 24), zE g ad (b + 24) (M (b + 24)) (F (b + 24))) H
    rw [zE_13 (zkB24 hb), zlB24 hb, hM 24 (by decide) (by decide) (by decide), hk (b + 24) 24 (by omega) (by decide) (by decide)]
    exact q
  · skip
    have q := hP 25 _ rfl
    show va_at D zCl (ad (b + 25), zE g ad (b + 25) (M (b + 25)) (F (b + 25))) H
    rw [zE_6 (zkB25 hb), hM 25 (by decide) (by decide) (by decide), hk (b + 25) 25 (by omega) (by decide) (by decide), hk (b + 25 + 1) 26 (by omega) (by decide) (by decide)]
    exact q
  · skip
    have q := hP 26 _ rfl
    show va_at D zCl (ad (b + 26), zE g ad (b + 26) (M (b + 26)) (F (b + 26))) H
    rw [zE_13 (zkB26 hb), zlB26 hb, hM 26 (by decide) (by decide) (by decide), hk (b + 26) 26 (by omega) (by decide) (by decide)]
    exact q
  · skip
    have q := hP 27 _ rfl
    show va_at D zCl (ad (b + 27), zE g ad (b + 27) (M (b + 27)) (F (b + 27))) H
    rw [zE_6 (zkB27 hb), hM 27 (by decide) (by decide) (by decide), hk (b + 27) 27 (by omega) (by decide) (by decide), hk (b + 27 + 1) 28 (by omega) (by decide) (by decide)]
    exact q
  · skip
    have q := hP 28 _ rfl
    show va_at D zCl (ad (b + 28), zE g ad (b + 28) (M (b + 28)) (F (b + 28))) H
    rw [zE_13 (zkB28 hb), zlB28 hb, hM 28 (by decide) (by decide) (by decide), hk (b + 28) 28 (by omega) (by decide) (by decide)]
    exact q
  · skip
    have q := hP 29 _ rfl
    show va_at D zCl (ad (b + 29), zE g ad (b + 29) (M (b + 29)) (F (b + 29))) H
    rw [zE_6 (zkB29 hb), hM 29 (by decide) (by decide) (by decide), hk (b + 29) 29 (by omega) (by decide) (by decide), hk (b + 29 + 1) 30 (by omega) (by decide) (by decide)]
    exact q
  · skip
    have q := hP 30 _ rfl
    show va_at D zCl (ad (b + 30), zE g ad (b + 30) (M (b + 30)) (F (b + 30))) H
    rw [zE_13 (zkB30 hb), zlB30 hb, hM 30 (by decide) (by decide) (by decide), hk (b + 30) 30 (by omega) (by decide) (by decide)]
    exact q
