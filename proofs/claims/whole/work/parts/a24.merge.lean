/-! the first world, whole -/
def mdk (g : zG) (b : Nat) (ma : Nat → Nat) : va_W := [(b, .inr (9, [.ref (ma 0), .ref (ma 1), .ref (ma 2), .ref (ma 3), .int (zI 0), .ref (ma 4), .int (zI 0), .ref (ma 5), .int (zI 0), .ref (ma 6), .int (zI 0), .ref (ma 7), .int (zI 0), .int (zI 0), .int (zI 0), .int (zI (-1)), .int (zI (-1)), .ref (ma 8), .int (zI 0)])), ((ma 0), .inl (g.2.2.1 13, 1496, .inl (zRow (fun _ => 0)))), ((ma 1), .inl (g.2.2.1 13, 1496, .inl (zRow (fun _ => 0)))), ((ma 2), .inl (g.2.2.1 13, 1496, .inl (zRow (fun _ => 0)))), ((ma 3), .inl (g.2.2.1 13, 1496, .inl (zRow (fun _ => 0)))), ((ma 4), .inl (g.2.2.1 13, 11968, .inl (zRow (fun _ => 0)))), ((ma 5), .inl (g.2.2.1 13, 8, .inl (zRow (fun _ => 0)))), ((ma 6), .inl (g.2.2.1 12, 30, .inl (zRow (fun _ => 0)))), ((ma 7), .inl (g.2.2.1 12, 60, .inl (zRow (fun _ => 0)))), ((ma 8), .inl (g.2.2.1 13, 240, .inl (zRow (fun _ => 0))))]
def mW (g : zG) (b0 : Nat) (q : Nat → Nat) (a : Nat → Nat → Nat) (R : Nat → Int → Int) (qh : Nat) (bs : Nat → Nat) (ah : Nat → Nat → Nat) (Rh : Nat → Int → Int) (ar : Nat → Nat) (qs mb : Nat) (ma : Nat → Nat) (o1 o2 : Nat) : va_W := ((((dwk g b0 q a R qh bs ah Rh ar qs) ++ (mdk g mb ma)) ++ [(o1, .inl (g.2.2.1 18, 1, .inr (.inl (fun _ => 0))))]) ++ [(o2, .inl (g.2.2.1 19, 1, .inr (.inr (.inr (.inl (fun _ => 0))))))])
set_option maxRecDepth 1000000 in
set_option maxHeartbeats 4000000 in
theorem mW_ad {g : zG} {b0 : Nat} {q : Nat → Nat} {a : Nat → Nat → Nat} {R : Nat → Int → Int} {qh : Nat} {bs : Nat → Nat} {ah : Nat → Nat → Nat} {Rh : Nat → Int → Int} {ar : Nat → Nat} {qs mb : Nat} {ma : Nat → Nat} {o1 o2 : Nat} : (mW g b0 q a R qh bs ah Rh ar qs mb ma o1 o2).map Prod.fst = (List.range 410).map (fun (k : Nat) => (mAd b0 q a qh bs ah ar qs mb ma o1 o2) (k : Int)) := rfl
theorem mW_s1 {g : zG} {b0 : Nat} {q : Nat → Nat} {a : Nat → Nat → Nat} {R : Nat → Int → Int} {qh : Nat} {bs : Nat → Nat} {ah : Nat → Nat → Nat} {Rh : Nat → Int → Int} {ar : Nat → Nat} {qs mb : Nat} {ma : Nat → Nat} {o1 o2 : Nat} {D : va_G} {H : Heap} (t : Nat) (ht : t < 3) (hR : ∀ x y, zc8 x → zc8 y → R t (8 * x + y) = zBF (fun _ => 0) x y) (hP : va_P D zCl (sbk g (q t) (a t) (R t)) H) : ∀ j : Nat, j < 31 → va_at D zCl ((mAd b0 q a qh bs ah ar qs mb ma o1 o2) (1 + 31 * (t : Int) + (j : Int)), zE g (mAd b0 q a qh bs ah ar qs mb ma o1 o2) (1 + 31 * (t : Int) + (j : Int)) (mM (1 + 31 * (t : Int) + (j : Int))) (mF (1 + 31 * (t : Int) + (j : Int)))) H :=
  sb_pl (b := 1 + 31 * (t : Int)) (Or.inl (by omega)) (mAd_1 t 0 ht (by decide) (by omega)) (fun j h1 h2 => (mAd_1 t j ht h2 rfl).trans (if_neg (by omega))) (mM_0 (by omega) (by omega) (by omega) (by omega)) (fun j h1 h2 h3 => mM_0 (by omega) (by omega) (by omega) (by omega)) (funext fun j => if_pos (by omega)) (funext fun p => (if_pos (by omega)).trans (by omega)) hR hP
theorem mW_s2 {g : zG} {b0 : Nat} {q : Nat → Nat} {a : Nat → Nat → Nat} {R : Nat → Int → Int} {qh : Nat} {bs : Nat → Nat} {ah : Nat → Nat → Nat} {Rh : Nat → Int → Int} {ar : Nat → Nat} {qs mb : Nat} {ma : Nat → Nat} {o1 o2 : Nat} {D : va_G} {H : Heap} (t : Nat) (ht : t < 9) (hR : ∀ x y, zc8 x → zc8 y → Rh t (8 * x + y) = zBF (fun _ => 0) x y) (hP : va_P D zCl (sbk g (bs t) (ah t) (Rh t)) H) : ∀ j : Nat, j < 31 → va_at D zCl ((mAd b0 q a qh bs ah ar qs mb ma o1 o2) (96 + 31 * (t : Int) + (j : Int)), zE g (mAd b0 q a qh bs ah ar qs mb ma o1 o2) (96 + 31 * (t : Int) + (j : Int)) (mM (96 + 31 * (t : Int) + (j : Int))) (mF (96 + 31 * (t : Int) + (j : Int)))) H :=
  sb_pl (b := 96 + 31 * (t : Int)) (Or.inr ⟨t, by omega, by omega, rfl⟩) (mAd_2 t 0 ht (by decide) (by omega)) (fun j h1 h2 => (mAd_2 t j ht h2 rfl).trans (if_neg (by omega))) (mM_0 (by omega) (by omega) (by omega) (by omega)) (fun j h1 h2 h3 => mM_0 (by omega) (by omega) (by omega) (by omega)) (funext fun j => if_pos (by omega)) (funext fun p => (if_pos (by omega)).trans (by omega)) hR hP
set_option maxRecDepth 100000 in
set_option maxHeartbeats 4000000 in
theorem mW_P {g : zG} {b0 : Nat} {q : Nat → Nat} {a : Nat → Nat → Nat} {R : Nat → Int → Int} {qh : Nat} {bs : Nat → Nat} {ah : Nat → Nat → Nat} {Rh : Nat → Int → Int} {ar : Nat → Nat} {qs mb : Nat} {ma : Nat → Nat} {o1 o2 : Nat} {D : va_G} {H : Heap} (hR : ∀ k, k < 3 → ∀ x y, zc8 x → zc8 y → R k (8 * x + y) = zBF (fun _ => 0) x y) (hRh : ∀ k, k < 9 → ∀ x y, zc8 x → zc8 y → Rh k (8 * x + y) = zBF (fun _ => 0) x y) (hP : va_P D zCl (mW g b0 q a R qh bs ah Rh ar qs mb ma o1 o2) H) : ∀ k : Nat, k < 410 → va_at D zCl ((mAd b0 q a qh bs ah ar qs mb ma o1 o2) (k : Int), zE g (mAd b0 q a qh bs ah ar qs mb ma o1 o2) (k : Int) (mM (k : Int)) (mF (k : Int))) H := by
  have hO2 := hP.r
  have hO1 := hP.l.r
  have hMd := hP.l.l.r
  have hDw : va_P D zCl (dwk g b0 q a R qh bs ah Rh ar qs) H := hP.l.l.l
  have hSB := hDw.r
  have hRd := hDw.l.r
  have hHb : va_P D zCl (hbk g (q 3) qh bs ah Rh) H := hDw.l.l.r
  have hS : ∀ t, t < 3 → va_P D zCl (sbk g (q t) (a t) (R t)) H := fun t ht => match t, ht with
    | 0, _ => hDw.l.l.l.l.l.r
    | 1, _ => hDw.l.l.l.l.r
    | 2, _ => hDw.l.l.l.r
  have hE := hDw.l.l.l.l.l.l
  have hH0 := hHb.l.l.l.l.l.l.l.l.l
  have hHs : ∀ t, t < 9 → va_P D zCl (sbk g (bs t) (ah t) (Rh t)) H := fun t ht => match t, ht with
    | 0, _ => hHb.l.l.l.l.l.l.l.l.r
    | 1, _ => hHb.l.l.l.l.l.l.l.r
    | 2, _ => hHb.l.l.l.l.l.l.r
    | 3, _ => hHb.l.l.l.l.l.r
    | 4, _ => hHb.l.l.l.l.r
    | 5, _ => hHb.l.l.l.r
    | 6, _ => hHb.l.l.r
    | 7, _ => hHb.l.r
    | 8, _ => hHb.r
  intro k hk
  have hcs : k = 0 ∨ (1 ≤ k ∧ k < 94) ∨ k = 94 ∨ k = 95 ∨ (96 ≤ k ∧ k < 375) ∨ k = 375 ∨ k = 376 ∨ k = 377 ∨ k = 378 ∨ k = 379 ∨ k = 380 ∨ k = 381 ∨ k = 382 ∨ k = 383 ∨ k = 384 ∨ k = 385 ∨ k = 386 ∨ k = 387 ∨ k = 388 ∨ k = 389 ∨ k = 390 ∨ k = 391 ∨ k = 392 ∨ k = 393 ∨ k = 394 ∨ k = 395 ∨ k = 396 ∨ k = 397 ∨ k = 398 ∨ k = 399 ∨ k = 400 ∨ k = 401 ∨ k = 402 ∨ k = 403 ∨ k = 404 ∨ k = 405 ∨ k = 406 ∨ k = 407 ∨ k = 408 ∨ k = 409 := by omega
  rcases hcs with rfl | h | rfl | rfl | h | rfl | rfl | rfl | rfl | rfl | rfl | rfl | rfl | rfl | rfl | rfl | rfl | rfl | rfl | rfl | rfl | rfl | rfl | rfl | rfl | rfl | rfl | rfl | rfl | rfl | rfl | rfl | rfl | rfl | rfl | rfl | rfl | rfl | rfl | rfl
  · exact hE 0 _ rfl
  · have q := mW_s1 (g := g) (b0 := b0) (Rh := Rh) (qh := qh) (bs := bs) (ah := ah) (ar := ar) (qs := qs) (mb := mb) (ma := ma) (o1 := o1) (o2 := o2) ((k - 1) / 31) (by omega) (hR _ (by omega)) (hS _ (by omega)) ((k - 1) % 31) (by omega)
    rw [show 1 + 31 * (((k - 1) / 31 : Nat) : Int) + (((k - 1) % 31 : Nat) : Int) = (k : Int) by omega] at q
    exact q
  · exact hH0 0 _ rfl
  · refine va_refs (n := 9) (hH0 1 _ rfl) (fun j hj => ?_)
    match j, hj with
    | 0, _ => rfl
    | 1, _ => rfl
    | 2, _ => rfl
    | 3, _ => rfl
    | 4, _ => rfl
    | 5, _ => rfl
    | 6, _ => rfl
    | 7, _ => rfl
    | 8, _ => rfl
  · have q := mW_s2 (g := g) (b0 := b0) (R := R) (q := q) (a := a) (qh := qh) (ar := ar) (qs := qs) (mb := mb) (ma := ma) (o1 := o1) (o2 := o2) ((k - 96) / 31) (by omega) (hRh _ (by omega)) (hHs _ (by omega)) ((k - 96) % 31) (by omega)
    rw [show 96 + 31 * (((k - 96) / 31 : Nat) : Int) + (((k - 96) % 31 : Nat) : Int) = (k : Int) by omega] at q
    exact q
  · exact hRd 0 _ rfl
  · exact hRd 1 _ rfl
  · refine va_refs (n := 9) (hRd 2 _ rfl) (fun j hj => ?_)
    match j, hj with
    | 0, _ => rfl
    | 1, _ => rfl
    | 2, _ => rfl
    | 3, _ => rfl
    | 4, _ => rfl
    | 5, _ => rfl
    | 6, _ => rfl
    | 7, _ => rfl
    | 8, _ => rfl
  · exact hRd 3 _ rfl
  · exact hRd 4 _ rfl
  · exact hRd 5 _ rfl
  · exact hRd 6 _ rfl
  · exact hRd 7 _ rfl
  · exact hRd 8 _ rfl
  · exact hRd 9 _ rfl
  · exact hRd 10 _ rfl
  · exact hRd 11 _ rfl
  · exact hRd 12 _ rfl
  · exact hRd 13 _ rfl
  · exact hRd 14 _ rfl
  · exact hRd 15 _ rfl
  · exact hRd 16 _ rfl
  · exact hRd 17 _ rfl
  · exact hRd 18 _ rfl
  · exact hRd 19 _ rfl
  · exact hRd 20 _ rfl
  · exact hSB 0 _ rfl
  · exact hSB 1 _ rfl
  · exact hMd 0 _ rfl
  · exact hMd 1 _ rfl
  · exact hMd 2 _ rfl
  · exact hMd 3 _ rfl
  · exact hMd 4 _ rfl
  · exact hMd 5 _ rfl
  · exact hMd 6 _ rfl
  · exact hMd 7 _ rfl
  · exact hMd 8 _ rfl
  · exact hMd 9 _ rfl
  · exact hO1 0 _ rfl
  · exact hO2 0 _ rfl
/-- the first world, with its addresses -/
theorem mW_zW {g : zG} {b0 : Nat} {q : Nat → Nat} {a : Nat → Nat → Nat} {R : Nat → Int → Int} {qh : Nat} {bs : Nat → Nat} {ah : Nat → Nat → Nat} {Rh : Nat → Int → Int} {ar : Nat → Nat} {qs mb : Nat} {ma : Nat → Nat} {o1 o2 : Nat} {A : Nat → Prop} {H0 H : Heap} {locs : List Loc} (hR : ∀ k, k < 3 → ∀ x y, zc8 x → zc8 y → R k (8 * x + y) = zBF (fun _ => 0) x y) (hRh : ∀ k, k < 9 → ∀ x y, zc8 x → zc8 y → Rh k (8 * x + y) = zBF (fun _ => 0) x y) (Wd : rW g A H0 (mW g b0 q a R qh bs ah Rh ar qs mb ma o1 o2) H locs) : zW g A H0 410 (mAd b0 q a qh bs ah ar qs mb ma o1 o2) mM mF H locs := by
  obtain ⟨hP, hD, hS⟩ := Wd
  have hat : ∀ k : Nat, k < 410 → ∃ e, (mW g b0 q a R qh bs ah Rh ar qs mb ma o1 o2)[k]? = some ((mAd b0 q a qh bs ah ar qs mb ma o1 o2) (k : Int), e) := fun k hk => by
    have h := congrArg (fun l => l[k]?) (mW_ad (g := g) (b0 := b0) (q := q) (a := a) (R := R) (qh := qh) (bs := bs) (ah := ah) (Rh := Rh) (ar := ar) (qs := qs) (mb := mb) (ma := ma) (o1 := o1) (o2 := o2))
    simp only [List.getElem?_map] at h
    rw [List.getElem?_range hk] at h
    cases hq : (mW g b0 q a R qh bs ah Rh ar qs mb ma o1 o2)[k]? with
    | none => rw [hq] at h; cases h
    | some e =>
      rw [hq] at h
      have h1 : e.1 = (mAd b0 q a qh bs ah ar qs mb ma o1 o2) (k : Int) := Option.some.inj h
      exact ⟨e.2, by rw [← h1]⟩
  refine ⟨⟨fun k p hk => ?_, ⟨fun i j x y hx hy e => ?_, fun k x hk => ?_⟩, hS⟩, mM_R⟩
  · obtain ⟨h1, rfl⟩ := wl_at hk
    exact mW_P hR hRh hP k h1
  · obtain ⟨h1, rfl⟩ := wl_at hx
    obtain ⟨h2, rfl⟩ := wl_at hy
    obtain ⟨e1, q1⟩ := hat i h1
    obtain ⟨e2, q2⟩ := hat j h2
    exact hD.1 i j _ _ q1 q2 e
  · obtain ⟨h1, rfl⟩ := wl_at hk
    obtain ⟨e1, q1⟩ := hat k h1
    have q9 := hD.2 k _ q1
    exact q9
