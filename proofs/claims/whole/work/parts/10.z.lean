/-! ===== Z: one memory of whole numbers behind the cells of the world; each instruction a row over it ===== -/
abbrev zMem : Type := Int → Int → Int
/-- the classes' numbers, their slots, the arrays' classes, the addresses of the constant objects -/
abbrev zG : Type := (Nat → ClassId) × (Nat → Nat → Nat) × (Nat → ClassId) × (Int → Nat)
def zI (x : Int) : Int32 := Int32.ofInt x
def zR (x : Int) : Prop := -2147483648 ≤ x ∧ x < 2147483648
theorem zR_mk {x : Int} (h1 : -2147483648 ≤ x) (h2 : x < 2147483648) : zR x := ⟨h1, h2⟩
theorem zI_toInt {x : Int} (h1 : -2147483648 ≤ x) (h2 : x < 2147483648) : (zI x).toInt = x := by
  unfold zI
  rw [Int32.toInt_ofInt, show Int32.size = 4294967296 from rfl, Int.bmod_def]
  split <;> omega
theorem zI_tr {x : Int} (h : zR x) : (zI x).toInt = x := zI_toInt h.1 h.2
theorem zI_of (x : Int32) : zI x.toInt = x := by unfold zI; exact Int32.ofInt_toInt x
theorem zR_of (x : Int32) : zR x.toInt := ⟨Int32.le_toInt x, Int32.toInt_lt x⟩
theorem zI_add (a b : Int) : zI a + zI b = zI (a + b) := (Int32.ofInt_add a b).symm
theorem zI_sub (a b : Int) : zI a - zI b = zI (a - b) := (Int32.ofInt_sub a b).symm
theorem zI_mul (a b : Int) : zI a * zI b = zI (a * b) := (Int32.ofInt_mul a b).symm
theorem zI_lt {a b : Int} (ha : zR a) (hb : zR b) : zI a < zI b ↔ a < b := by rw [Int32.lt_iff_toInt_lt, zI_tr ha, zI_tr hb]
theorem zI_le {a b : Int} (ha : zR a) (hb : zR b) : zI a ≤ zI b ↔ a ≤ b := by rw [Int32.le_iff_toInt_le, zI_tr ha, zI_tr hb]
theorem zI_eq {a b : Int} (ha : zR a) (hb : zR b) : zI a = zI b ↔ a = b := ⟨fun h => by rw [← zI_tr ha, ← zI_tr hb, h], fun h => by rw [h]⟩
theorem zI_nI (n : Nat) : zI (n : Int) = nI n := by unfold zI nI; first | exact Int32.ofInt_eq_ofNat | exact Int32.ofInt_eq_ofNat n | rfl | (apply Int32.toBitVec_inj.mp; simp)
theorem zI_clamp {t : Int} (h0 : 0 ≤ t) (h1 : t < 2147483648) : (zI t).toNatClampNeg = t.toNat := by
  unfold Int32.toNatClampNeg
  rw [zI_toInt (by omega) h1]
theorem zI_in {t : Int} {n : Nat} (h0 : 0 ≤ t) (h1 : t < (n : Int)) (hn : n ≤ 2147483648) : vp_in (zI t) n := by
  rw [vp_in_iff, zI_toInt (by omega) (by omega)]
  exact ⟨h0, h1⟩
/-- which kind of cell stands at which place -/
def zks (j : Int) : Nat := if j = 0 then 7 else if j = 1 then 1 else if j ≤ 4 then 13 else if j = 5 then 15 else if j = 6 then 16 else if j = 7 then 0 else if j = 8 then 13 else if j ≤ 14 then 4 else if j % 2 = 1 then 6 else 13
def zkd (i : Int) : Nat := if i = 0 then 8 else if i < 94 then zks ((i - 1) % 31) else if i = 94 then 5 else if i = 95 then 17 else if i < 375 then zks ((i - 96) % 31) else if i = 375 then 3 else if i = 376 then 12 else if i = 377 then 14 else if i < 396 then (if i % 2 = 0 then 2 else 13) else if i = 396 then 10 else if i = 397 then 11 else if i = 398 then 9 else if i ≤ 404 then 13 else if i ≤ 406 then 12 else if i = 407 then 13 else if i = 408 then 18 else 19
def zlns (j : Int) : Nat := if j ≤ 3 then 64 else if j = 4 then 8 else if j = 5 then 6 else if j = 6 then 8 else if j = 8 then 1024 else 40
def zln (i : Int) : Nat := if i < 94 then zlns ((i - 1) % 31) else if i = 95 then 9 else if i < 375 then zlns ((i - 96) % 31) else if i = 376 then 60 else if i = 377 then 9 else if i < 396 then 3 else if i = 397 then 16 else if i ≤ 402 then 1496 else if i = 403 then 11968 else if i = 404 then 8 else if i = 405 then 30 else if i = 406 then 60 else if i = 407 then 240 else 1
/-- the places at which a State begins -/
def zB (b : Int) : Prop := (b = 1 ∨ b = 32 ∨ b = 63) ∨ ∃ t, 0 ≤ t ∧ t < 9 ∧ b = 96 + 31 * t
theorem zkd_B {b j : Int} (h : zB b) (h0 : 0 ≤ j) (h1 : j < 31) : zkd (b + j) = zks j := by
  rcases h with (rfl | rfl | rfl) | ⟨t, t0, t9, rfl⟩
  · rw [zkd, if_neg (by omega), if_pos (by omega), show (1 + j - 1) % 31 = j by omega]
  · rw [zkd, if_neg (by omega), if_pos (by omega), show (32 + j - 1) % 31 = j by omega]
  · rw [zkd, if_neg (by omega), if_pos (by omega), show (63 + j - 1) % 31 = j by omega]
  · rw [zkd, if_neg (by omega), if_neg (by omega), if_neg (by omega), if_neg (by omega), if_pos (by omega), show (96 + 31 * t + j - 96) % 31 = j by omega]
theorem zln_B {b j : Int} (h : zB b) (h0 : 0 ≤ j) (h1 : j < 31) : zln (b + j) = zlns j := by
  rcases h with (rfl | rfl | rfl) | ⟨t, t0, t9, rfl⟩
  · rw [zln, if_pos (by omega), show (1 + j - 1) % 31 = j by omega]
  · rw [zln, if_pos (by omega), show (32 + j - 1) % 31 = j by omega]
  · rw [zln, if_pos (by omega), show (63 + j - 1) % 31 = j by omega]
  · rw [zln, if_neg (by omega), if_neg (by omega), if_pos (by omega), show (96 + 31 * t + j - 96) % 31 = j by omega]
theorem zB_bd {b : Int} (h : zB b) : 1 ≤ b ∧ b + 31 ≤ 375 := by
  rcases h with (rfl | rfl | rfl) | ⟨t, t0, t9, rfl⟩ <;> omega
abbrev zCl : List vw_C := [(RX1, TX1, 1), (RX2, TX2, 5), (RX3, TX3, 3), (RX5, TX5, 6), (RX7, TX7, 4), (RX8, TX8, 3), (RX9, TX9, 8), (RX10, TX10, 11), (RX11, TX11, 9), (RX12, TX12, 19), (RJ4, TJ4, 4)]
abbrev zty (g : zG) : List (ClassId × FieldType) := [(g.2.2.1 11, .byte), (g.2.2.1 12, .char), (g.2.2.1 13, .int), (g.2.2.1 14, .object "DrumWarren$Command"), (g.2.2.1 15, .object "DrumWarren$Hare"), (g.2.2.1 16, .object "DrumWarren$Message"), (g.2.2.1 17, .object "DrumWarren$State"), (g.2.2.1 18, .long), (g.2.2.1 19, .double)]
abbrev zRow (r : Int → Int) : Nat → Int32 := fun j => zI (r (j : Int))
/-- what stands at place i: m its numbers, f its references that move (messages' places, a command's kind) -/
def zE (g : zG) (ad : Int → Nat) (i : Int) (m f : Int → Int) : va_E :=
  if zkd i = 0 then .inr (0, [.ref (ad (i + 1))])
  else if zkd i = 1 then .inr (1, [.int (zI (m 0)), .int (zI (m 1)), .ref (ad (i + 1)), .ref (ad (i + 2)), .ref (ad (i + 3))])
  else if zkd i = 2 then .inr (2, [.ref (g.2.2.2 (f 0)), .ref (ad (i + 1)), .int (zI (m 2))])
  else if zkd i = 3 then .inr (3, [.ref (ad (i + 1)), .int (zI (m 1)), .ref (ad (i + 2)), .int (zI (m 3)), .int (zI (m 4)), .int (zI (m 5))])
  else if zkd i = 4 then .inr (4, [.int (zI (m 0)), .int (zI (m 1)), .int (zI (m 2)), .int (zI (m 3))])
  else if zkd i = 5 then .inr (5, [.ref (ad (i + 1)), .int (zI (m 1)), .int (zI (m 2))])
  else if zkd i = 6 then .inr (6, [.int (zI (m 0)), .int (zI (m 1)), .int (zI (m 2)), .int (zI (m 3)), .int (zI (m 4)), .int (zI (m 5)), .int (zI (m 6)), .ref (ad (i + 1))])
  else if zkd i = 7 then .inr (7, [.ref (ad (i + 1)), .ref (ad (i + 5)), .int (zI (m 2)), .ref (ad (i + 6)), .int (zI (m 4)), .int (zI (m 5)), .ref (ad (i + 7)), .int (zI (m 7)), .int (zI (m 8)), .int (zI (m 9)), .int (zI (m 10))])
  else if zkd i = 8 then .inr (8, [.ref (ad 1), .ref (ad 32), .ref (ad 63), .ref (ad 94), .ref (ad 375), .ref (ad 396), .int (zI (m 6)), .int (zI (m 7)), .int (zI (m 8))])
  else if zkd i = 9 then .inr (9, [.ref (ad 399), .ref (ad 400), .ref (ad 401), .ref (ad 402), .int (zI (m 4)), .ref (ad 403), .int (zI (m 6)), .ref (ad 404), .int (zI (m 8)), .ref (ad 405), .int (zI (m 10)), .ref (ad 406), .int (zI (m 12)), .int (zI (m 13)), .int (zI (m 14)), .int (zI (m 15)), .int (zI (m 16)), .ref (ad 407), .int (zI (m 18))])
  else if zkd i = 10 then .inr (10, [.ref (ad (i + 1)), .int (zI (m 1)), .int (zI (m 2)), .int (zI (m 3))])
  else if zkd i = 11 then .inl (g.2.2.1 11, zln i, .inl (zRow m))
  else if zkd i = 12 then .inl (g.2.2.1 12, zln i, .inl (zRow m))
  else if zkd i = 13 then .inl (g.2.2.1 13, zln i, .inl (zRow m))
  else if zkd i = 14 then .inl (g.2.2.1 14, zln i, .inr (.inr (.inr (.inr (fun j => some (ad (i + 1 + 2 * j)))))))
  else if zkd i = 15 then .inl (g.2.2.1 15, zln i, .inr (.inr (.inr (.inr (fun j => some (ad (i + 4 + j)))))))
  else if zkd i = 16 then .inl (g.2.2.1 16, zln i, .inr (.inr (.inr (.inr (fun j => some (ad (f j)))))))
  else if zkd i = 17 then .inl (g.2.2.1 17, zln i, .inr (.inr (.inr (.inr (fun j => some (ad (i + 1 + 31 * j)))))))
  else if zkd i = 18 then .inl (g.2.2.1 18, zln i, .inr (.inl (fun j => Int64.ofInt (m j))))
  else .inl (g.2.2.1 19, zln i, .inr (.inr (.inr (.inl (fun j => UInt64.ofNat (m j).toNat)))))
def wl (g : zG) (N : Nat) (ad : Int → Nat) (M F : zMem) : va_W := (List.range N).map (fun (k : Nat) => (ad k, zE g ad k (M k) (F k)))
theorem wl_get {g : zG} {N : Nat} {ad : Int → Nat} {M F : zMem} {i : Int} (h : 0 ≤ i ∧ i < N) : (wl g N ad M F)[i.toNat]? = some (ad i, zE g ad i (M i) (F i)) := by
  have h1 : i.toNat < N := by omega
  have h2 : ((i.toNat : Nat) : Int) = i := by omega
  simp [wl, h1, h2]
theorem wl_at {g : zG} {N : Nat} {ad : Int → Nat} {M F : zMem} {k : Nat} {q : Nat × va_E} (h : (wl g N ad M F)[k]? = some q) : k < N ∧ q = (ad k, zE g ad k (M k) (F k)) := by
  have hk : k < N := by
    have := (List.getElem?_eq_some_iff.mp h).1
    simpa [wl] using this
  have h3 := wl_get (g := g) (N := N) (ad := ad) (M := M) (F := F) (i := (k : Int)) ⟨by omega, by omega⟩
  rw [Int.toNat_natCast, h] at h3
  exact ⟨hk, Option.some.inj h3⟩
/-- one number written -/
def zu (M : zMem) (i j : Int) (v : Int) : zMem := fun a b => if a = i ∧ b = j then v else M a b
theorem zu_same (M : zMem) (i j : Int) (v : Int) : zu M i j v i j = v := if_pos ⟨rfl, rfl⟩
theorem zu_ne {M : zMem} {i j a b : Int} {v : Int} (h : ¬ (a = i ∧ b = j)) : zu M i j v a b = M a b := if_neg h
theorem zu_row {M : zMem} {i j a : Int} {v : Int} (h : a ≠ i) : zu M i j v a = M a := by
  funext b
  exact if_neg (fun q => h q.1)
/-- a row changed -/
def zrow (M : zMem) (i : Int) (r : Int → Int) : zMem := fun a => if a = i then r else M a
theorem zrow_same (M : zMem) (i : Int) (r : Int → Int) : zrow M i r i = r := if_pos rfl
theorem zrow_ne {M : zMem} {i a : Int} {r : Int → Int} (h : a ≠ i) : zrow M i r a = M a := if_neg h
theorem wl_put {g : zG} {N : Nat} {ad : Int → Nat} {M F M' F' : zMem} {i : Int} {e : va_E} (h : 0 ≤ i ∧ i < N) (he : zE g ad i (M' i) (F' i) = e) (hM : ∀ a, a ≠ i → M' a = M a) (hF : ∀ a, a ≠ i → F' a = F a) : (wl g N ad M F).set i.toNat (ad i, e) = wl g N ad M' F' := by
  apply List.ext_getElem?
  intro k
  have h2 : ((i.toNat : Nat) : Int) = i := by omega
  by_cases hk : k = i.toNat
  · subst hk
    rw [List.getElem?_set_self (by simp [wl]; omega), wl_get h, he]
  · rw [List.getElem?_set_ne (Ne.symm hk)]
    have hki : (k : Int) ≠ i := by omega
    simp only [wl, List.getElem?_map]
    by_cases hn : k < N
    · simp [hn, hM _ hki, hF _ hki]
    · simp [hn]
def zRM (M : zMem) : Prop := ∀ i j, zR (M i j)
theorem zRM_zu {M : zMem} {i j : Int} {v : Int} (h : zRM M) (hv : zR v) : zRM (zu M i j v) := by
  intro a b
  unfold zu
  split
  · exact hv
  · exact h a b
theorem zRM_zrow {M : zMem} {i : Int} {r : Int → Int} (h : zRM M) (hr : ∀ j, zR (r j)) : zRM (zrow M i r) := by
  intro a b
  unfold zrow
  split
  · exact hr b
  · exact h a b
/-- which cells a method may change: the world's, and new ones -/
def zA (N : Nat) (ad : Int → Nat) (sz : Nat) : Nat → Prop := fun q => (∃ i : Int, (0 ≤ i ∧ i < N) ∧ q = ad i) ∨ sz ≤ q
/-- what holds of the constant objects and statics (outside A, so for good) -/
def zS (g : zG) (A : Nat → Prop) (U : State) (H : Heap) : Prop := True
theorem zS.pass {g : zG} {A B : Nat → Prop} {s U : State} {H : Heap} {locs : List Loc} (h : zS g A s s.heap) (hS : va_S A s.heap H locs) (hvm : s.vm.Alike U.vm) (hU : U.heap = H) (hAB : ∀ q, B q → A q) : zS g B U U.heap := trivial
def zC (g : zG) (A : Nat → Prop) (p : Program) (s : State) (m : MethodId) (args : Array Value) (c : Code) (cc : ByteArray) (nL : Nat) (own : String) : Prop :=
  CallFix p m c cc nL s args zT own ∧ va_K (g.1, g.2.1) zCl (zty g) s ∧ zS g A s s.heap ∧ ∀ q, s.heap.size ≤ q → A q
def zW (g : zG) (A : Nat → Prop) (H0 : Heap) (N : Nat) (ad : Int → Nat) (M F : zMem) (H : Heap) (locs : List Loc) : Prop :=
  (va_P (g.1, g.2.1) zCl (wl g N ad M F) H ∧ va_D A (wl g N ad M F) ∧ va_S A H0 H locs) ∧ zRM M
theorem zW.rm {g : zG} {A : Nat → Prop} {H0 : Heap} {N : Nat} {ad : Int → Nat} {M F : zMem} {H : Heap} {locs : List Loc} (h : zW g A H0 N ad M F H locs) (i j : Int) : zR (M i j) := h.2 i j
theorem zW.inA {g : zG} {A : Nat → Prop} {H0 : Heap} {N : Nat} {ad : Int → Nat} {M F : zMem} {H : Heap} {locs : List Loc} (h : zW g A H0 N ad M F H locs) {i : Int} (hi : 0 ≤ i ∧ i < N) : A (ad i) := h.1.2.1.2 i.toNat _ (wl_get hi)
theorem zE_0 {g : zG} {ad : Int → Nat} {i : Int} {m f : Int → Int} (h : zkd i = 0) : zE g ad i m f = .inr (0, [.ref (ad (i + 1))]) := by simp [zE, h]
theorem zE_1 {g : zG} {ad : Int → Nat} {i : Int} {m f : Int → Int} (h : zkd i = 1) : zE g ad i m f = .inr (1, [.int (zI (m 0)), .int (zI (m 1)), .ref (ad (i + 1)), .ref (ad (i + 2)), .ref (ad (i + 3))]) := by simp [zE, h]
theorem zE_2 {g : zG} {ad : Int → Nat} {i : Int} {m f : Int → Int} (h : zkd i = 2) : zE g ad i m f = .inr (2, [.ref (g.2.2.2 (f 0)), .ref (ad (i + 1)), .int (zI (m 2))]) := by simp [zE, h]
theorem zE_3 {g : zG} {ad : Int → Nat} {i : Int} {m f : Int → Int} (h : zkd i = 3) : zE g ad i m f = .inr (3, [.ref (ad (i + 1)), .int (zI (m 1)), .ref (ad (i + 2)), .int (zI (m 3)), .int (zI (m 4)), .int (zI (m 5))]) := by simp [zE, h]
theorem zE_4 {g : zG} {ad : Int → Nat} {i : Int} {m f : Int → Int} (h : zkd i = 4) : zE g ad i m f = .inr (4, [.int (zI (m 0)), .int (zI (m 1)), .int (zI (m 2)), .int (zI (m 3))]) := by simp [zE, h]
theorem zE_5 {g : zG} {ad : Int → Nat} {i : Int} {m f : Int → Int} (h : zkd i = 5) : zE g ad i m f = .inr (5, [.ref (ad (i + 1)), .int (zI (m 1)), .int (zI (m 2))]) := by simp [zE, h]
theorem zE_6 {g : zG} {ad : Int → Nat} {i : Int} {m f : Int → Int} (h : zkd i = 6) : zE g ad i m f = .inr (6, [.int (zI (m 0)), .int (zI (m 1)), .int (zI (m 2)), .int (zI (m 3)), .int (zI (m 4)), .int (zI (m 5)), .int (zI (m 6)), .ref (ad (i + 1))]) := by simp [zE, h]
theorem zE_7 {g : zG} {ad : Int → Nat} {i : Int} {m f : Int → Int} (h : zkd i = 7) : zE g ad i m f = .inr (7, [.ref (ad (i + 1)), .ref (ad (i + 5)), .int (zI (m 2)), .ref (ad (i + 6)), .int (zI (m 4)), .int (zI (m 5)), .ref (ad (i + 7)), .int (zI (m 7)), .int (zI (m 8)), .int (zI (m 9)), .int (zI (m 10))]) := by simp [zE, h]
theorem zE_8 {g : zG} {ad : Int → Nat} {i : Int} {m f : Int → Int} (h : zkd i = 8) : zE g ad i m f = .inr (8, [.ref (ad 1), .ref (ad 32), .ref (ad 63), .ref (ad 94), .ref (ad 375), .ref (ad 396), .int (zI (m 6)), .int (zI (m 7)), .int (zI (m 8))]) := by simp [zE, h]
theorem zE_9 {g : zG} {ad : Int → Nat} {i : Int} {m f : Int → Int} (h : zkd i = 9) : zE g ad i m f = .inr (9, [.ref (ad 399), .ref (ad 400), .ref (ad 401), .ref (ad 402), .int (zI (m 4)), .ref (ad 403), .int (zI (m 6)), .ref (ad 404), .int (zI (m 8)), .ref (ad 405), .int (zI (m 10)), .ref (ad 406), .int (zI (m 12)), .int (zI (m 13)), .int (zI (m 14)), .int (zI (m 15)), .int (zI (m 16)), .ref (ad 407), .int (zI (m 18))]) := by simp [zE, h]
theorem zE_10 {g : zG} {ad : Int → Nat} {i : Int} {m f : Int → Int} (h : zkd i = 10) : zE g ad i m f = .inr (10, [.ref (ad (i + 1)), .int (zI (m 1)), .int (zI (m 2)), .int (zI (m 3))]) := by simp [zE, h]
theorem zE_11 {g : zG} {ad : Int → Nat} {i : Int} {m f : Int → Int} (h : zkd i = 11) : zE g ad i m f = .inl (g.2.2.1 11, zln i, .inl (zRow m)) := by simp [zE, h]
theorem zE_12 {g : zG} {ad : Int → Nat} {i : Int} {m f : Int → Int} (h : zkd i = 12) : zE g ad i m f = .inl (g.2.2.1 12, zln i, .inl (zRow m)) := by simp [zE, h]
theorem zE_13 {g : zG} {ad : Int → Nat} {i : Int} {m f : Int → Int} (h : zkd i = 13) : zE g ad i m f = .inl (g.2.2.1 13, zln i, .inl (zRow m)) := by simp [zE, h]
theorem zE_14 {g : zG} {ad : Int → Nat} {i : Int} {m f : Int → Int} (h : zkd i = 14) : zE g ad i m f = .inl (g.2.2.1 14, zln i, .inr (.inr (.inr (.inr (fun j => some (ad (i + 1 + 2 * j))))))) := by simp [zE, h]
theorem zE_15 {g : zG} {ad : Int → Nat} {i : Int} {m f : Int → Int} (h : zkd i = 15) : zE g ad i m f = .inl (g.2.2.1 15, zln i, .inr (.inr (.inr (.inr (fun j => some (ad (i + 4 + j))))))) := by simp [zE, h]
theorem zE_16 {g : zG} {ad : Int → Nat} {i : Int} {m f : Int → Int} (h : zkd i = 16) : zE g ad i m f = .inl (g.2.2.1 16, zln i, .inr (.inr (.inr (.inr (fun j => some (ad (f j))))))) := by simp [zE, h]
theorem zE_17 {g : zG} {ad : Int → Nat} {i : Int} {m f : Int → Int} (h : zkd i = 17) : zE g ad i m f = .inl (g.2.2.1 17, zln i, .inr (.inr (.inr (.inr (fun j => some (ad (i + 1 + 31 * j))))))) := by simp [zE, h]
theorem zE_18 {g : zG} {ad : Int → Nat} {i : Int} {m f : Int → Int} (h : zkd i = 18) : zE g ad i m f = .inl (g.2.2.1 18, zln i, .inr (.inl (fun j => Int64.ofInt (m j)))) := by simp [zE, h]
theorem zE_19 {g : zG} {ad : Int → Nat} {i : Int} {m f : Int → Int} (h : zkd i = 19) : zE g ad i m f = .inl (g.2.2.1 19, zln i, .inr (.inr (.inr (.inl (fun j => UInt64.ofNat (m j).toNat))))) := by simp [zE, h]
