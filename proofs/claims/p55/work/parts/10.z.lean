/-! ===== Z: one memory of whole numbers behind the cells of the world; each instruction a row over it ===== -/
abbrev zMem : Type := Int → Int → Int
/-- the classes' numbers, their slots, the arrays' classes, the addresses of the constant objects -/
abbrev zG : Type := (Nat → ClassId) × (Nat → Nat → Nat) × (Nat → ClassId) × (Int → Nat)
def zI (x : Int) : Int32 := Int32.ofInt x
def zR (x : Int) : Prop := -2147483648 ≤ x ∧ x < 2147483648
theorem zR_mk {x : Int} (h1 : -2147483648 ≤ x) (h2 : x < 2147483648) : zR x := ⟨h1, h2⟩
theorem zI_toInt {x : Int} (h1 : -2147483648 ≤ x) (h2 : x < 2147483648) : (zI x).toInt = x := by
  unfold zI
  rw [Int32.toInt_ofInt, show Int32.size = 4294967296 from rfl, Int.bmod_def]
  split <;> omega
theorem zI_tr {x : Int} (h : zR x) : (zI x).toInt = x := zI_toInt h.1 h.2
theorem zI_of (x : Int32) : zI x.toInt = x := by unfold zI; exact Int32.ofInt_toInt x
theorem zR_of (x : Int32) : zR x.toInt := ⟨Int32.le_toInt x, Int32.toInt_lt x⟩
theorem zI_add (a b : Int) : zI a + zI b = zI (a + b) := (Int32.ofInt_add a b).symm
theorem zI_sub (a b : Int) : zI a - zI b = zI (a - b) := (Int32.ofInt_sub a b).symm
theorem zI_mul (a b : Int) : zI a * zI b = zI (a * b) := (Int32.ofInt_mul a b).symm
theorem zI_lt {a b : Int} (ha : zR a) (hb : zR b) : zI a < zI b ↔ a < b := by rw [Int32.lt_iff_toInt_lt, zI_tr ha, zI_tr hb]
theorem zI_le {a b : Int} (ha : zR a) (hb : zR b) : zI a ≤ zI b ↔ a ≤ b := by rw [Int32.le_iff_toInt_le, zI_tr ha, zI_tr hb]
theorem zI_eq {a b : Int} (ha : zR a) (hb : zR b) : zI a = zI b ↔ a = b := ⟨fun h => by rw [← zI_tr ha, ← zI_tr hb, h], fun h => by rw [h]⟩
theorem zI_nI (n : Nat) : zI (n : Int) = nI n := by unfold zI nI; first | exact Int32.ofInt_eq_ofNat | exact Int32.ofInt_eq_ofNat n | rfl | (apply Int32.toBitVec_inj.mp; simp)
theorem zI_clamp {t : Int} (h0 : 0 ≤ t) (h1 : t < 2147483648) : (zI t).toNatClampNeg = t.toNat := by
  unfold Int32.toNatClampNeg
  rw [zI_toInt (by omega) h1]
theorem zI_in {t : Int} {n : Nat} (h0 : 0 ≤ t) (h1 : t < (n : Int)) (hn : n ≤ 2147483648) : vp_in (zI t) n := by
  rw [vp_in_iff, zI_toInt (by omega) (by omega)]
  exact ⟨h0, h1⟩
/-- which kind of cell stands at which place -/
def zks (j : Int) : Nat := if j = 0 then 7 else if j = 1 then 1 else if j ≤ 4 then 13 else if j = 5 then 15 else if j = 6 then 16 else if j = 7 then 0 else if j = 8 then 13 else if j ≤ 14 then 4 else if j % 2 = 1 then 6 else 13
def zkd (i : Int) : Nat := if i = 0 then 8 else if i < 94 then zks ((i - 1) % 31) else if i = 94 then 5 else if i = 95 then 17 else if i < 375 then zks ((i - 96) % 31) else if i = 375 then 3 else if i = 376 then 12 else if i = 377 then 14 else if i < 396 then (if i % 2 = 0 then 2 else 13) else if i = 396 then 10 else if i = 397 then 11 else if i = 398 then 13 else if i = 399 then 18 else if i = 402 then 10 else 11
def zlns (j : Int) : Nat := if j ≤ 3 then 64 else if j = 4 then 8 else if j = 5 then 6 else if j = 6 then 8 else if j = 8 then 1024 else 40
def zln (i : Int) : Nat := if i < 94 then zlns ((i - 1) % 31) else if i = 95 then 9 else if i < 375 then zlns ((i - 96) % 31) else if i = 376 then 60 else if i = 377 then 9 else if i < 396 then 3 else if i = 397 then 16 else if i = 398 then 8 else if i = 399 then 9 else 34
/-- the places at which a State begins -/
def zB (b : Int) : Prop := (b = 1 ∨ b = 32 ∨ b = 63) ∨ ∃ t, 0 ≤ t ∧ t < 9 ∧ b = 96 + 31 * t
theorem zkd_B {b j : Int} (h : zB b) (h0 : 0 ≤ j) (h1 : j < 31) : zkd (b + j) = zks j := by
  rcases h with (rfl | rfl | rfl) | ⟨t, t0, t9, rfl⟩
  · rw [zkd, if_neg (by omega), if_pos (by omega), show (1 + j - 1) % 31 = j by omega]
  · rw [zkd, if_neg (by omega), if_pos (by omega), show (32 + j - 1) % 31 = j by omega]
  · rw [zkd, if_neg (by omega), if_pos (by omega), show (63 + j - 1) % 31 = j by omega]
  · rw [zkd, if_neg (by omega), if_neg (by omega), if_neg (by omega), if_neg (by omega), if_pos (by omega), show (96 + 31 * t + j - 96) % 31 = j by omega]
theorem zln_B {b j : Int} (h : zB b) (h0 : 0 ≤ j) (h1 : j < 31) : zln (b + j) = zlns j := by
  rcases h with (rfl | rfl | rfl) | ⟨t, t0, t9, rfl⟩
  · rw [zln, if_pos (by omega), show (1 + j - 1) % 31 = j by omega]
  · rw [zln, if_pos (by omega), show (32 + j - 1) % 31 = j by omega]
  · rw [zln, if_pos (by omega), show (63 + j - 1) % 31 = j by omega]
  · rw [zln, if_neg (by omega), if_neg (by omega), if_pos (by omega), show (96 + 31 * t + j - 96) % 31 = j by omega]
theorem zB_bd {b : Int} (h : zB b) : 1 ≤ b ∧ b + 31 ≤ 375 := by
  rcases h with (rfl | rfl | rfl) | ⟨t, t0, t9, rfl⟩ <;> omega
abbrev zCl : List vw_C := [(RX1, TX1, 1), (RX2, TX2, 5), (RX3, TX3, 3), (RX5, TX5, 6), (RX7, TX7, 4), (RX8, TX8, 3), (RX9, TX9, 8), (RX10, TX10, 11), (RX11, TX11, 9), (RJ0, TJ0, 4), (RJ4, TJ4, 4)]
abbrev zty (g : zG) : List (ClassId × FieldType) := [(g.2.2.1 11, .byte), (g.2.2.1 12, .char), (g.2.2.1 13, .int), (g.2.2.1 14, .object "DrumWarren$Command"), (g.2.2.1 15, .object "DrumWarren$Hare"), (g.2.2.1 16, .object "DrumWarren$Message"), (g.2.2.1 17, .object "DrumWarren$State"), (g.2.2.1 18, .long)]
abbrev zRow (r : Int → Int) : Nat → Int32 := fun j => zI (r (j : Int))
/-- what stands at place i: m its numbers, f its references that move (messages' places, a command's kind) -/
def zE (g : zG) (ad : Int → Nat) (i : Int) (m f : Int → Int) : va_E :=
  if zkd i = 0 then .inr (0, [.ref (ad (i + 1))])
  else if zkd i = 1 then .inr (1, [.int (zI (m 0)), .int (zI (m 1)), .ref (ad (i + 1)), .ref (ad (i + 2)), .ref (ad (i + 3))])
  else if zkd i = 2 then .inr (2, [.ref (g.2.2.2 (f 0)), .ref (ad (i + 1)), .int (zI (m 2))])
  else if zkd i = 3 then .inr (3, [.ref (ad (i + 1)), .int (zI (m 1)), .ref (ad (i + 2)), .int (zI (m 3)), .int (zI (m 4)), .int (zI (m 5))])
  else if zkd i = 4 then .inr (4, [.int (zI (m 0)), .int (zI (m 1)), .int (zI (m 2)), .int (zI (m 3))])
  else if zkd i = 5 then .inr (5, [.ref (ad (i + 1)), .int (zI (m 1)), .int (zI (m 2))])
  else if zkd i = 6 then .inr (6, [.int (zI (m 0)), .int (zI (m 1)), .int (zI (m 2)), .int (zI (m 3)), .int (zI (m 4)), .int (zI (m 5)), .int (zI (m 6)), .ref (ad (i + 1))])
  else if zkd i = 7 then .inr (7, [.ref (ad (i + 1)), .ref (ad (i + 5)), .int (zI (m 2)), .ref (ad (i + 6)), .int (zI (m 4)), .int (zI (m 5)), .ref (ad (i + 7)), .int (zI (m 7)), .int (zI (m 8)), .int (zI (m 9)), .int (zI (m 10))])
  else if zkd i = 8 then .inr (8, [.ref (ad 1), .ref (ad 32), .ref (ad 63), .ref (ad 94), .ref (ad 375), .ref (ad 396), .int (zI (m 6)), .int (zI (m 7)), .int (zI (m 8))])
  else if zkd i = 9 then .inr (9, [])
  else if zkd i = 10 then .inr (10, [.ref (ad (i + 1)), .int (zI (m 1)), .int (zI (m 2)), .int (zI (m 3))])
  else if zkd i = 11 then .inl (g.2.2.1 11, zln i, .inl (zRow m))
  else if zkd i = 12 then .inl (g.2.2.1 12, zln i, .inl (zRow m))
  else if zkd i = 13 then .inl (g.2.2.1 13, zln i, .inl (zRow m))
  else if zkd i = 14 then .inl (g.2.2.1 14, zln i, .inr (.inr (.inr (.inr (fun j => some (ad (i + 1 + 2 * j)))))))
  else if zkd i = 15 then .inl (g.2.2.1 15, zln i, .inr (.inr (.inr (.inr (fun j => some (ad (i + 4 + j)))))))
  else if zkd i = 16 then .inl (g.2.2.1 16, zln i, .inr (.inr (.inr (.inr (fun j => some (ad (f j)))))))
  else if zkd i = 17 then .inl (g.2.2.1 17, zln i, .inr (.inr (.inr (.inr (fun j => some (ad (i + 1 + 31 * j)))))))
  else if zkd i = 18 then .inl (g.2.2.1 18, zln i, .inr (.inl (fun j => Int64.ofInt (m j))))
  else .inl (g.2.2.1 19, zln i, .inr (.inr (.inr (.inl (fun j => UInt64.ofNat (f j).toNat)))))
/-- the window of places lo .. hi - 1, and further cells beside it -/
abbrev zNs : Type := Int × Nat × va_W
abbrev zIn (N : zNs) (i : Int) : Prop := N.1 ≤ i ∧ i < (N.2.1 : Int)
def wlC (g : zG) (N : zNs) (ad : Int → Nat) (M F : zMem) : va_W := (List.range ((N.2.1 : Int) - N.1).toNat).map (fun (k : Nat) => (ad (N.1 + k), zE g ad (N.1 + k) (M (N.1 + k)) (F (N.1 + k))))
def wl (g : zG) (N : zNs) (ad : Int → Nat) (M F : zMem) : va_W := wlC g N ad M F ++ N.2.2
theorem wlC_length {g : zG} {N : zNs} {ad : Int → Nat} {M F : zMem} : (wlC g N ad M F).length = ((N.2.1 : Int) - N.1).toNat := by simp [wlC]
theorem wl_get {g : zG} {N : zNs} {ad : Int → Nat} {M F : zMem} {i : Int} (h : zIn N i) : (wl g N ad M F)[(i - N.1).toNat]? = some (ad i, zE g ad i (M i) (F i)) := by
  obtain ⟨a, b⟩ := h
  have h1 : (i - N.1).toNat < ((N.2.1 : Int) - N.1).toNat := by omega
  have h2 : N.1 + (((i - N.1).toNat : Nat) : Int) = i := by omega
  rw [wl, List.getElem?_append_left (by rw [wlC_length]; exact h1), wlC, List.getElem?_map, List.getElem?_range h1, Option.map_some, h2]
theorem wl_at {g : zG} {N : zNs} {ad : Int → Nat} {M F : zMem} {k : Nat} {q : Nat × va_E} (h : (wl g N ad M F)[k]? = some q) : (∃ i : Int, zIn N i ∧ q = (ad i, zE g ad i (M i) (F i))) ∨ q ∈ N.2.2 := by
  by_cases hk : k < ((N.2.1 : Int) - N.1).toNat
  · refine Or.inl ⟨N.1 + k, ⟨by omega, by omega⟩, ?_⟩
    have h3 := wl_get (g := g) (N := N) (ad := ad) (M := M) (F := F) (i := N.1 + k) ⟨by omega, by omega⟩
    rw [show (N.1 + (k : Int) - N.1).toNat = k by omega, h] at h3
    exact Option.some.inj h3
  · rw [wl, List.getElem?_append_right (by rw [wlC_length]; omega)] at h
    exact Or.inr (List.mem_of_getElem? h)
/-- one number written -/
def zu (M : zMem) (i j : Int) (v : Int) : zMem := fun a b => if a = i ∧ b = j then v else M a b
theorem zu_same (M : zMem) (i j : Int) (v : Int) : zu M i j v i j = v := if_pos ⟨rfl, rfl⟩
theorem zu_ne {M : zMem} {i j a b : Int} {v : Int} (h : ¬ (a = i ∧ b = j)) : zu M i j v a b = M a b := if_neg h
theorem zu_row {M : zMem} {i j a : Int} {v : Int} (h : a ≠ i) : zu M i j v a = M a := by
  funext b
  exact if_neg (fun q => h q.1)
/-- a row changed -/
def zrow (M : zMem) (i : Int) (r : Int → Int) : zMem := fun a => if a = i then r else M a
theorem zrow_same (M : zMem) (i : Int) (r : Int → Int) : zrow M i r i = r := if_pos rfl
theorem zrow_ne {M : zMem} {i a : Int} {r : Int → Int} (h : a ≠ i) : zrow M i r a = M a := if_neg h
theorem wl_put {g : zG} {N : zNs} {ad : Int → Nat} {M F M' F' : zMem} {i : Int} {e : va_E} (h : zIn N i) (he : zE g ad i (M' i) (F' i) = e) (hM : ∀ a, a ≠ i → M' a = M a) (hF : ∀ a, a ≠ i → F' a = F a) : (wl g N ad M F).set (i - N.1).toNat (ad i, e) = wl g N ad M' F' := by
  have h0 := h
  obtain ⟨a, b⟩ := h
  have h1 : (i - N.1).toNat < ((N.2.1 : Int) - N.1).toNat := by omega
  have h2 : N.1 + (((i - N.1).toNat : Nat) : Int) = i := by omega
  have hC : (wlC g N ad M F).set (i - N.1).toNat (ad i, e) = wlC g N ad M' F' := by
    apply List.ext_getElem?
    intro k
    by_cases hk : k = (i - N.1).toNat
    · subst hk
      rw [List.getElem?_set_self (by rw [wlC_length]; exact h1), wlC, List.getElem?_map, List.getElem?_range h1, Option.map_some, h2, he]
    · rw [List.getElem?_set_ne (Ne.symm hk)]
      have hki : N.1 + (k : Int) ≠ i := by omega
      simp only [wlC, List.getElem?_map]
      by_cases hn : k < ((N.2.1 : Int) - N.1).toNat
      · simp [hn, hM _ hki, hF _ hki]
      · simp [hn]
  rw [wl, List.set_append_left _ _ (by rw [wlC_length]; exact h1), hC, wl]
def zRM (M : zMem) : Prop := ∀ i j, zR (M i j)
theorem zRM_zu {M : zMem} {i j : Int} {v : Int} (h : zRM M) (hv : zR v) : zRM (zu M i j v) := by
  intro a b
  unfold zu
  split
  · exact hv
  · exact h a b
theorem zRM_zrow {M : zMem} {i : Int} {r : Int → Int} (h : zRM M) (hr : ∀ j, zR (r j)) : zRM (zrow M i r) := by
  intro a b
  unfold zrow
  split
  · exact hr b
  · exact h a b
/-- which cells a method may change: the world's, and new ones -/
def zA (N : zNs) (ad : Int → Nat) (sz : Nat) : Nat → Prop := fun q => ((∃ i : Int, zIn N i ∧ q = ad i) ∨ ∃ x, x ∈ N.2.2 ∧ q = x.1) ∨ sz ≤ q
theorem wl_A {g : zG} {N : zNs} {ad : Int → Nat} {M F : zMem} {k sz : Nat} {q : Nat × va_E} (h : (wl g N ad M F)[k]? = some q) : zA N ad sz q.1 := by
  rcases wl_at h with ⟨i, hi, rfl⟩ | h
  · exact Or.inl (Or.inl ⟨i, hi, rfl⟩)
  · exact Or.inl (Or.inr ⟨q, h, rfl⟩)
/-- a text constant at k, its bytes at v -/
def zStr (k v : Nat) (bs : List Int32) (A : Nat → Prop) (U : State) (H : Heap) : Prop :=
  va_O "java/lang/String" k A U H ∧ va_OF "java/lang/String" "coder" "B" (.int 0) k A U H ∧ va_OF "java/lang/String" "value" "[B" (.ref v) k A U H ∧ va_T .byte v bs.length (fun j => .int (bs.getD j 0)) A U H
abbrev zTxt : List (Int × Int × List Int32) := [(20, 60, [99, 104, 97, 109, 98, 101, 114]), (21, 61, [116, 117, 110, 110, 101, 108, 32, 35, 45, 35, 42, 35]), (22, 62, [104, 97, 114, 101, 32, 35]), (23, 63, [115, 97, 121, 32, 35, 62, 35, 61, 37]), (24, 64, [108, 105, 115, 116, 101, 110, 32, 35]), (25, 65, [115, 108, 101, 101, 112, 32, 35]), (26, 66, [103, 111, 32, 35, 64, 35]), (27, 67, [116, 105, 99, 107, 32, 37]), (40, 80, [58]), (41, 81, [62]), (42, 82, [61]), (43, 83, [33, 33, 33]), (44, 84, []), (45, 85, [120]), (46, 86, [46]), (47, 87, [116, 105, 99, 107, 32]), (48, 88, [59, 115, 97, 121, 32]), (49, 89, [61, 49, 49, 59, 116, 105, 99, 107, 32, 51, 59, 103, 111, 32]), (50, 90, [64]), (51, 91, [])]
abbrev zStrs : List (String × Nat × String × Int) := [("DrumWarrenLaw", 290, ":", 40), ("DrumWarrenLaw", 295, ">", 41), ("DrumWarrenLaw", 297, "=", 42), ("DrumWarrenLaw", 302, "!!!", 43), ("DrumWarrenLaw", 335, "", 44), ("DrumWarrenLaw", 339, "x", 45), ("DrumWarrenLaw", 341, ".", 46), ("DrumWarrenLaw", 377, "tick ", 47), ("DrumWarrenLaw", 379, ";say ", 48), ("DrumWarrenLaw", 381, "=11;tick 3;go ", 49), ("DrumWarrenLaw", 383, "@", 50), ("java/lang/StringLatin1", 151, "", 51), ("DrumWarren", 95, "no tunnel joins these chambers", 200), ("DrumWarren", 151, "no message was delivered to this hare", 201), ("DrumWarren", 156, "no such rank", 202), ("DrumWarren", 172, "no such position", 203), ("DrumWarren", 207, "a beat is from 0 to 4", 204), ("DrumWarren", 218, "a code is from 0 to 31", 205), ("DrumWarren", 224, "the number of beats that are 1 is odd", 206), ("DrumWarren", 228, "the message was delivered or is lost", 207), ("DrumWarren", 245, "the message is not delivered within 60 ticks", 208), ("DrumWarren", 257, "the tick is too long ago or too far ahead", 209), ("DrumWarren", 276, "there were neither deliveries nor losses", 210), ("DrumWarren", 296, "no such character", 211), ("DrumWarren", 316, "the input buffer is full", 212), ("DrumWarren", 326, "the text is malformed", 213), ("DrumWarren", 348, "a command fails", 214), ("DrumWarren", 358, "no change can be undone", 217), ("DrumWarren", 378, "no such chamber or hare", 219), ("DrumWarren", 380, "no such tunnel or message", 220), ("DrumWarren", 382, "an argument is not allowed", 221), ("DrumWarren", 384, "the warren does not allow this now", 222), ("DrumWarren", 389, "no such chamber", 223), ("DrumWarren", 394, "no such hare", 224), ("DrumWarren", 399, "a number is from 0 to 15", 225), ("DrumWarren", 401, "there is no way", 226), ("DrumWarren", 403, "no such message", 227)]
abbrev zNMs : List (String × Nat × MethodName × String) := [("DrumWarren$State", 123, ⟨"DrumWarren", "isNumber", "(I)Z"⟩, "DrumWarren"), ("DrumWarren$State", 176, ⟨"DrumWarren", "codeOf", "(I)I"⟩, "DrumWarren"), ("DrumWarren$State", 179, ⟨"DrumWarren", "isOne", "(II)Z"⟩, "DrumWarren"), ("DrumWarren$State", 32, ⟨"DrumWarren$Air", "<init>", "()V"⟩, "DrumWarren"), ("DrumWarren$State", 37, ⟨"DrumWarren$Hare", "<init>", "()V"⟩, "DrumWarren"), ("DrumWarren$State", 38, ⟨"DrumWarren$Message", "<init>", "()V"⟩, "DrumWarren"), ("DrumWarren$CommandReader", 25, ⟨"DrumWarren$Command", "<init>", "()V"⟩, "DrumWarren")]
abbrev zNFs : List (String × Nat × String × String × String × String) := [("DrumWarren$CommandReader", 43, "DrumWarren", "COMMAND_KINDS", "[LDrumWarren$CommandKind;", "DrumWarren"), ("DrumWarren$CommandReader", 64, "DrumWarren$CommandKind", "form", "Ljava/lang/String;", "DrumWarren")]
abbrev zCas : List (String × String) := [("java/lang/IndexOutOfBoundsException", "java/lang/IndexOutOfBoundsException"), ("java/util/NoSuchElementException", "java/util/NoSuchElementException"), ("java/lang/IllegalArgumentException", "java/lang/IllegalArgumentException"), ("java/lang/IllegalStateException", "java/lang/IllegalStateException"), ("java/lang/UnsupportedOperationException", "java/lang/UnsupportedOperationException"), ("java/lang/ArithmeticException", "java/lang/ArithmeticException"), ("DrumWarren$State", "java/lang/Object"), ("DrumWarren$Hare", "java/lang/Object"), ("DrumWarren$Message", "java/lang/Object"), ("DrumWarren$Command", "java/lang/Object")]
abbrev zNCas : List (String × String) := [("java/lang/IndexOutOfBoundsException", "java/util/NoSuchElementException"), ("java/lang/IndexOutOfBoundsException", "java/lang/IllegalArgumentException"), ("java/lang/IndexOutOfBoundsException", "java/lang/IllegalStateException"), ("java/lang/IndexOutOfBoundsException", "java/lang/UnsupportedOperationException"), ("java/util/NoSuchElementException", "java/lang/IndexOutOfBoundsException"), ("java/util/NoSuchElementException", "java/lang/IllegalArgumentException"), ("java/util/NoSuchElementException", "java/lang/IllegalStateException"), ("java/util/NoSuchElementException", "java/lang/UnsupportedOperationException"), ("java/lang/IllegalArgumentException", "java/lang/IndexOutOfBoundsException"), ("java/lang/IllegalArgumentException", "java/util/NoSuchElementException"), ("java/lang/IllegalArgumentException", "java/lang/IllegalStateException"), ("java/lang/IllegalArgumentException", "java/lang/UnsupportedOperationException"), ("java/lang/IllegalStateException", "java/lang/IndexOutOfBoundsException"), ("java/lang/IllegalStateException", "java/util/NoSuchElementException"), ("java/lang/IllegalStateException", "java/lang/IllegalArgumentException"), ("java/lang/IllegalStateException", "java/lang/UnsupportedOperationException"), ("java/lang/UnsupportedOperationException", "java/lang/IndexOutOfBoundsException"), ("java/lang/UnsupportedOperationException", "java/util/NoSuchElementException"), ("java/lang/UnsupportedOperationException", "java/lang/IllegalArgumentException"), ("java/lang/UnsupportedOperationException", "java/lang/IllegalStateException"), ("java/lang/ArithmeticException", "java/lang/IndexOutOfBoundsException"), ("java/lang/ArithmeticException", "java/util/NoSuchElementException"), ("java/lang/ArithmeticException", "java/lang/IllegalArgumentException"), ("java/lang/ArithmeticException", "java/lang/IllegalStateException"), ("java/lang/ArithmeticException", "java/lang/UnsupportedOperationException")]
abbrev zPrs : List MethodName := [⟨"java/lang/AbstractStringBuilder", "ensureCapacityInternal", "(I)V"⟩, ⟨"java/lang/AbstractStringBuilder", "inflateIfNeededFor", "(Ljava/lang/String;)V"⟩, ⟨"java/lang/AbstractStringBuilder", "newCapacity", "(I)I"⟩, ⟨"java/lang/AbstractStringBuilder", "putStringAt", "(ILjava/lang/String;)V"⟩]
/-- the classes whose arrays are made -/
abbrev zAOs : List String := ["DrumWarren$Command", "DrumWarren$Hare", "DrumWarren$Message", "DrumWarren$State"]
def zAOa (_A : Nat → Prop) (U : State) (_H : Heap) : Prop := ∀ C ∈ zAOs, va_AO C U
theorem zAOa.moved {A : Nat → Prop} {u U : State} {H : Heap} (hvm : u.vm.Alike U.vm) (h : zAOa A u H) : zAOa A U H := fun C hC => va_AO.moved hvm (h C hC)
theorem zAOa.kept {A : Nat → Prop} {U : State} {H H1 : Heap} (h : zAOa A U H) (_hq : ∀ a : Nat, a < H.size → ¬ A a → H1[a]? = H[a]?) : zAOa A U H1 := h
theorem zAOa.narrow {A B : Nat → Prop} {U : State} {H : Heap} (h : zAOa A U H) (_hAB : ∀ q, B q → A q) : zAOa B U H := h
abbrev zTabs : List (String × String × String × Int) := [("DrumWarren$1", "$SwitchMap$DrumWarren$Fault", "[I", 100), ("DrumWarren$1", "$SwitchMap$DrumWarren$CommandKind", "[I", 101), ("DrumWarren", "COMMAND_KINDS", "[LDrumWarren$CommandKind;", 102), ("java/lang/Integer", "DigitOnes", "[B", 103), ("java/lang/Integer", "DigitTens", "[B", 104)]
theorem zStr.moved {k v : Nat} {bs : List Int32} {A : Nat → Prop} {u U : State} {H : Heap} (hvm : u.vm.Alike U.vm) (h : zStr k v bs A u H) : zStr k v bs A U H := ⟨va_O.moved hvm h.1, va_OF.moved hvm h.2.1, va_OF.moved hvm h.2.2.1, va_T.moved hvm h.2.2.2⟩
theorem zStr.kept {k v : Nat} {bs : List Int32} {A : Nat → Prop} {U : State} {H H1 : Heap} (h : zStr k v bs A U H) (hq : ∀ a : Nat, a < H.size → ¬ A a → H1[a]? = H[a]?) : zStr k v bs A U H1 := ⟨h.1.kept hq, h.2.1.kept hq, h.2.2.1.kept hq, h.2.2.2.kept hq⟩
theorem zStr.narrow {k v : Nat} {bs : List Int32} {A : Nat → Prop} {B : Nat → Prop} {U : State} {H : Heap} (h : zStr k v bs A U H) (hAB : ∀ q, B q → A q) : zStr k v bs B U H := ⟨h.1.narrow hAB, h.2.1.narrow hAB, h.2.2.1.narrow hAB, h.2.2.2.narrow hAB⟩
/-- what holds of the constant objects and statics (outside A, so for good) -/
def zSa (g : zG) (A : Nat → Prop) (U : State) (H : Heap) : Prop :=
  va_En "DrumWarren$Fault" "LDrumWarren$Fault;" ["NONE", "NO_SUCH_INDEX", "NO_SUCH_ELEMENT", "BAD_ARGUMENT", "BAD_STATE"] [("java/lang/Enum", "ordinal", "I", [0, 1, 2, 3, 4])] (fun i => g.2.2.2 (i : Int)) A U H ∧
  va_En "DrumWarren$CommandKind" "LDrumWarren$CommandKind;" ["CHAMBER", "TUNNEL", "HARE", "SAY", "LISTEN", "SLEEP", "GO", "TICK"] [("java/lang/Enum", "ordinal", "I", [0, 1, 2, 3, 4, 5, 6, 7])] (fun i => g.2.2.2 (10 + (i : Int))) A U H ∧
  va_Ef 8 "DrumWarren$CommandKind" "form" "Ljava/lang/String;" (fun i => .ref (g.2.2.2 (20 + (i : Int)))) (fun i => g.2.2.2 (10 + (i : Int))) A U H ∧
  (∀ q ∈ zTxt, zStr (g.2.2.2 q.1) (g.2.2.2 q.2.1) q.2.2 A U H) ∧
  (∀ q ∈ zTabs, va_Z q.1 q.2.1 q.2.2.1 (.ref (g.2.2.2 q.2.2.2)) A U H) ∧
  va_Z "java/lang/String" "COMPACT_STRINGS" "Z" (.int 1) A U H ∧
  va_T .int (g.2.2.2 100) 5 (fun j => .int (zI (j : Int))) A U H ∧
  va_T .int (g.2.2.2 101) 8 (fun j => .int (zI ((j : Int) + 1))) A U H ∧
  va_T (.object "DrumWarren$CommandKind") (g.2.2.2 102) 8 (fun j => .ref (g.2.2.2 (10 + (j : Int)))) A U H ∧
  va_T .byte (g.2.2.2 103) 100 (fun j => .int (zI (48 + (j : Int) % 10))) A U H ∧
  va_T .byte (g.2.2.2 104) 100 (fun j => .int (zI (48 + (j : Int) / 10))) A U H ∧
  vx_Zq "java/lang/Throwable" "UNASSIGNED_STACK" "[Ljava/lang/StackTraceElement;" A U H ∧
  vx_Zq "java/lang/Throwable" "SUPPRESSED_SENTINEL" "Ljava/util/List;" A U H ∧
  va_Zq "jdk/internal/util/Preconditions" "SIOOBE_FORMATTER" "Ljava/util/function/BiFunction;" A U H ∧
  zAOa A U H
theorem zSa.moved {g : zG} {A : Nat → Prop} {u U : State} {H : Heap} (hvm : u.vm.Alike U.vm) (h : zSa g A u H) : zSa g A U H := by
  obtain ⟨h0, h1, h2, h3, h4, h5, h6, h7, h8, h9, h10, h11, h12, h13, h14⟩ := h
  exact ⟨va_En.moved hvm h0, va_En.moved hvm h1, va_Ef.moved hvm h2, fun q hq9 => zStr.moved hvm (h3 q hq9), fun q hq9 => va_Z.moved hvm (h4 q hq9), va_Z.moved hvm h5, va_T.moved hvm h6, va_T.moved hvm h7, va_T.moved hvm h8, va_T.moved hvm h9, va_T.moved hvm h10, vx_Zq.moved hvm h11, vx_Zq.moved hvm h12, va_Zq.moved hvm h13, zAOa.moved hvm h14⟩
theorem zSa.kept {g : zG} {A : Nat → Prop} {U : State} {H H1 : Heap} (h : zSa g A U H) (hq : ∀ a : Nat, a < H.size → ¬ A a → H1[a]? = H[a]?) : zSa g A U H1 := by
  obtain ⟨h0, h1, h2, h3, h4, h5, h6, h7, h8, h9, h10, h11, h12, h13, h14⟩ := h
  exact ⟨va_En.kept h0 hq, va_En.kept h1 hq, va_Ef.kept h2 hq, fun q hq9 => zStr.kept (h3 q hq9) hq, fun q hq9 => va_Z.kept (h4 q hq9) hq, va_Z.kept h5 hq, va_T.kept h6 hq, va_T.kept h7 hq, va_T.kept h8 hq, va_T.kept h9 hq, va_T.kept h10 hq, vx_Zq.kept h11 hq, vx_Zq.kept h12 hq, va_Zq.kept h13 hq, zAOa.kept h14 hq⟩
theorem zSa.narrow {g : zG} {A B : Nat → Prop} {U : State} {H : Heap} (h : zSa g A U H) (hAB : ∀ q, B q → A q) : zSa g B U H := by
  obtain ⟨h0, h1, h2, h3, h4, h5, h6, h7, h8, h9, h10, h11, h12, h13, h14⟩ := h
  exact ⟨va_En.narrow h0 hAB, va_En.narrow h1 hAB, va_Ef.narrow h2 hAB, fun q hq9 => zStr.narrow (h3 q hq9) hAB, fun q hq9 => va_Z.narrow (h4 q hq9) hAB, va_Z.narrow h5 hAB, va_T.narrow h6 hAB, va_T.narrow h7 hAB, va_T.narrow h8 hAB, va_T.narrow h9 hAB, va_T.narrow h10 hAB, vx_Zq.narrow h11 hAB, vx_Zq.narrow h12 hAB, va_Zq.narrow h13 hAB, zAOa.narrow h14 hAB⟩
/-- what holds of the tables beyond zT -/
def zSb (g : zG) (U : State) : Prop :=
  (∀ q ∈ zStrs, vk_R q.1 q.2.1 q.2.2.1 (g.2.2.2 q.2.2.2) U) ∧ (∀ q ∈ zNMs, va_Nw (.methodLinkNest q.1 q.2.1 q.2.2.1 q.2.2.2) U) ∧ (∀ q ∈ zNFs, va_Nw (.fieldLinkNest q.1 q.2.1 q.2.2.1 q.2.2.2.1 q.2.2.2.2.1 q.2.2.2.2.2) U) ∧ (∀ q ∈ zCas, va_Nw (.castable q.1 q.2) U) ∧ (∀ q ∈ zNCas, va_Nc q.1 q.2 U) ∧ (∀ q ∈ zPrs, va_Nw (.privateMethod q) U)
theorem zSb.same {g : zG} {u U : State} (hv : U.vm = u.vm) (h : zSb g u) : zSb g U :=
  ⟨fun q hq => vk_R.same hv (h.1 q hq), fun q hq => va_Nw.same rfl hv.symm (h.2.1 q hq), fun q hq => va_Nw.same rfl hv.symm (h.2.2.1 q hq), fun q hq => va_Nw.same rfl hv.symm (h.2.2.2.1 q hq), fun q hq => va_Nc.moved (by rw [hv]; exact Vm.Alike.refl _) (h.2.2.2.2.1 q hq), fun q hq => va_Nw.same rfl hv.symm (h.2.2.2.2.2 q hq)⟩
theorem zSb.warm {g : zG} {s U : State} (hW : s.WarmedH U.vm) (h : zSb g s) : zSb g U :=
  ⟨fun q hq => vk_R.warm hW (h.1 q hq), fun q hq => va_Nw.warmM hW (h.2.1 q hq), fun q hq => va_Nw.warmF hW (h.2.2.1 q hq), fun q hq => va_Nw.warmC hW (h.2.2.2.1 q hq), fun q hq => va_Nc.moved hW.alike (h.2.2.2.2.1 q hq), fun q hq => Cond.privateMethod_warm (args := #[]) hW (h.2.2.2.2.2 q hq)⟩
def zS (g : zG) (A : Nat → Prop) (U : State) (H : Heap) : Prop := zSa g A U H ∧ zSb g U
theorem zS.pass {g : zG} {A B : Nat → Prop} {s U : State} {H : Heap} {locs : List Loc} (h : zS g A s s.heap) (hS : va_S A s.heap H locs) (hvm : s.vm.Alike U.vm) (hb : zSb g s → zSb g U) (hU : U.heap = H) (hAB : ∀ q, B q → A q) : zS g B U U.heap := by
  rw [hU]
  exact ⟨((h.1.kept hS.2.1).moved hvm).narrow hAB, hb h.2⟩
def zC (g : zG) (A : Nat → Prop) (p : Program) (s : State) (m : MethodId) (args : Array Value) (c : Code) (cc : ByteArray) (nL : Nat) (own : String) : Prop :=
  CallFix p m c cc nL s args zT own ∧ va_K (g.1, g.2.1) zCl (zty g) s ∧ zS g A s s.heap ∧ ∀ q, s.heap.size ≤ q → A q
def zW (g : zG) (A : Nat → Prop) (H0 : Heap) (N : zNs) (ad : Int → Nat) (M F : zMem) (H : Heap) (locs : List Loc) : Prop :=
  (va_P (g.1, g.2.1) zCl (wl g N ad M F) H ∧ va_D A (wl g N ad M F) ∧ va_S A H0 H locs) ∧ zRM M
theorem zW.rm {g : zG} {A : Nat → Prop} {H0 : Heap} {N : zNs} {ad : Int → Nat} {M F : zMem} {H : Heap} {locs : List Loc} (h : zW g A H0 N ad M F H locs) (i j : Int) : zR (M i j) := h.2 i j
theorem zW.inA {g : zG} {A : Nat → Prop} {H0 : Heap} {N : zNs} {ad : Int → Nat} {M F : zMem} {H : Heap} {locs : List Loc} (h : zW g A H0 N ad M F H locs) {i : Int} (hi : zIn N i) : A (ad i) := h.1.2.1.2 _ _ (wl_get hi)
theorem zE_0 {g : zG} {ad : Int → Nat} {i : Int} {m f : Int → Int} (h : zkd i = 0) : zE g ad i m f = .inr (0, [.ref (ad (i + 1))]) := by simp [zE, h]
theorem zE_1 {g : zG} {ad : Int → Nat} {i : Int} {m f : Int → Int} (h : zkd i = 1) : zE g ad i m f = .inr (1, [.int (zI (m 0)), .int (zI (m 1)), .ref (ad (i + 1)), .ref (ad (i + 2)), .ref (ad (i + 3))]) := by simp [zE, h]
theorem zE_2 {g : zG} {ad : Int → Nat} {i : Int} {m f : Int → Int} (h : zkd i = 2) : zE g ad i m f = .inr (2, [.ref (g.2.2.2 (f 0)), .ref (ad (i + 1)), .int (zI (m 2))]) := by simp [zE, h]
theorem zE_3 {g : zG} {ad : Int → Nat} {i : Int} {m f : Int → Int} (h : zkd i = 3) : zE g ad i m f = .inr (3, [.ref (ad (i + 1)), .int (zI (m 1)), .ref (ad (i + 2)), .int (zI (m 3)), .int (zI (m 4)), .int (zI (m 5))]) := by simp [zE, h]
theorem zE_4 {g : zG} {ad : Int → Nat} {i : Int} {m f : Int → Int} (h : zkd i = 4) : zE g ad i m f = .inr (4, [.int (zI (m 0)), .int (zI (m 1)), .int (zI (m 2)), .int (zI (m 3))]) := by simp [zE, h]
theorem zE_5 {g : zG} {ad : Int → Nat} {i : Int} {m f : Int → Int} (h : zkd i = 5) : zE g ad i m f = .inr (5, [.ref (ad (i + 1)), .int (zI (m 1)), .int (zI (m 2))]) := by simp [zE, h]
theorem zE_6 {g : zG} {ad : Int → Nat} {i : Int} {m f : Int → Int} (h : zkd i = 6) : zE g ad i m f = .inr (6, [.int (zI (m 0)), .int (zI (m 1)), .int (zI (m 2)), .int (zI (m 3)), .int (zI (m 4)), .int (zI (m 5)), .int (zI (m 6)), .ref (ad (i + 1))]) := by simp [zE, h]
theorem zE_7 {g : zG} {ad : Int → Nat} {i : Int} {m f : Int → Int} (h : zkd i = 7) : zE g ad i m f = .inr (7, [.ref (ad (i + 1)), .ref (ad (i + 5)), .int (zI (m 2)), .ref (ad (i + 6)), .int (zI (m 4)), .int (zI (m 5)), .ref (ad (i + 7)), .int (zI (m 7)), .int (zI (m 8)), .int (zI (m 9)), .int (zI (m 10))]) := by simp [zE, h]
theorem zE_8 {g : zG} {ad : Int → Nat} {i : Int} {m f : Int → Int} (h : zkd i = 8) : zE g ad i m f = .inr (8, [.ref (ad 1), .ref (ad 32), .ref (ad 63), .ref (ad 94), .ref (ad 375), .ref (ad 396), .int (zI (m 6)), .int (zI (m 7)), .int (zI (m 8))]) := by simp [zE, h]
theorem zE_10 {g : zG} {ad : Int → Nat} {i : Int} {m f : Int → Int} (h : zkd i = 10) : zE g ad i m f = .inr (10, [.ref (ad (i + 1)), .int (zI (m 1)), .int (zI (m 2)), .int (zI (m 3))]) := by simp [zE, h]
theorem zE_11 {g : zG} {ad : Int → Nat} {i : Int} {m f : Int → Int} (h : zkd i = 11) : zE g ad i m f = .inl (g.2.2.1 11, zln i, .inl (zRow m)) := by simp [zE, h]
theorem zE_12 {g : zG} {ad : Int → Nat} {i : Int} {m f : Int → Int} (h : zkd i = 12) : zE g ad i m f = .inl (g.2.2.1 12, zln i, .inl (zRow m)) := by simp [zE, h]
theorem zE_13 {g : zG} {ad : Int → Nat} {i : Int} {m f : Int → Int} (h : zkd i = 13) : zE g ad i m f = .inl (g.2.2.1 13, zln i, .inl (zRow m)) := by simp [zE, h]
theorem zE_14 {g : zG} {ad : Int → Nat} {i : Int} {m f : Int → Int} (h : zkd i = 14) : zE g ad i m f = .inl (g.2.2.1 14, zln i, .inr (.inr (.inr (.inr (fun j => some (ad (i + 1 + 2 * j))))))) := by simp [zE, h]
theorem zE_15 {g : zG} {ad : Int → Nat} {i : Int} {m f : Int → Int} (h : zkd i = 15) : zE g ad i m f = .inl (g.2.2.1 15, zln i, .inr (.inr (.inr (.inr (fun j => some (ad (i + 4 + j))))))) := by simp [zE, h]
theorem zE_16 {g : zG} {ad : Int → Nat} {i : Int} {m f : Int → Int} (h : zkd i = 16) : zE g ad i m f = .inl (g.2.2.1 16, zln i, .inr (.inr (.inr (.inr (fun j => some (ad (f j))))))) := by simp [zE, h]
theorem zE_17 {g : zG} {ad : Int → Nat} {i : Int} {m f : Int → Int} (h : zkd i = 17) : zE g ad i m f = .inl (g.2.2.1 17, zln i, .inr (.inr (.inr (.inr (fun j => some (ad (i + 1 + 31 * j))))))) := by simp [zE, h]
theorem zE_18 {g : zG} {ad : Int → Nat} {i : Int} {m f : Int → Int} (h : zkd i = 18) : zE g ad i m f = .inl (g.2.2.1 18, zln i, .inr (.inl (fun j => Int64.ofInt (m j)))) := by simp [zE, h]
theorem zE_19 {g : zG} {ad : Int → Nat} {i : Int} {m f : Int → Int} (h : zkd i = 19) : zE g ad i m f = .inl (g.2.2.1 19, zln i, .inr (.inr (.inr (.inl (fun j => UInt64.ofNat (f j).toNat))))) := by simp [zE, h]
