/-! the model's reader -/
theorem z_ldcr {g : zG} {A : Nat → Prop} {p : Program} {l : Launch} {e : Env} {R : Room} {s : State} {m : MethodId} {args : Array Value} {below : List Frame} {meth : Method} {c : Code} {H : Heap} {locs : List Loc} {cells slots : Nat} {Q : State → Prop} {cc : ByteArray} {nL : Nat} {own : String} {pc : Nat} {ls : Array Slot} {rest : List Value} (C0 : zC g A p s m args c cc nL own) {tx : String} {index a : Nat} (hZ : vk_R own index tx a s) (hdg : decode cc pc = .ok (.ldc index, 2)) (k : W p l e R s m args below meth c H locs cells slots Q (F0 m (pc + 2) ls (.ref a :: rest))) : W p l e R s m args below meth c H locs cells slots Q (F0 m pc ls rest) :=
  va_ldcS C0.1.1 C0.1.2.1 C0.1.2.2.2.1 hZ hdg k
theorem zsp_out {M : zMem} {q i j : Int} (h : ¬ (i = 398 ∧ (j = 13 ∨ j = 14))) : zsp M q i j = M i j := by
  unfold zsp
  rw [zu_ne (by omega), zu_ne (by omega)]

theorem ztl_40 : ztl (40, 80, [116, 117, 110, 110, 101, 108, 32]) = [116, 117, 110, 110, 101, 108, 32] := by decide +kernel
theorem ztl_41 : ztl (41, 81, [45]) = [45] := by decide +kernel
theorem ztl_42 : ztl (42, 82, [42]) = [42] := by decide +kernel
theorem ztl_43 : ztl (43, 83, [116, 105, 99, 107, 32]) = [116, 105, 99, 107, 32] := by decide +kernel
theorem ztl_44 : ztl (44, 84, [115, 108, 101, 101, 112, 32]) = [115, 108, 101, 101, 112, 32] := by decide +kernel
theorem ztl_45 : ztl (45, 85, [115, 97, 121, 32]) = [115, 97, 121, 32] := by decide +kernel
theorem ztl_46 : ztl (46, 86, [62]) = [62] := by decide +kernel
theorem ztl_47 : ztl (47, 87, [61]) = [61] := by decide +kernel
theorem ztl_48 : ztl (48, 88, [104, 97, 114, 101, 32]) = [104, 97, 114, 101, 32] := by decide +kernel
theorem ztl_49 : ztl (49, 89, [108, 105, 115, 116, 101, 110, 32]) = [108, 105, 115, 116, 101, 110, 32] := by decide +kernel
theorem ztl_50 : ztl (50, 90, [103, 111, 32]) = [103, 111, 32] := by decide +kernel
theorem ztl_51 : ztl (51, 91, [64]) = [64] := by decide +kernel
theorem ztl_52 : ztl (52, 92, [99, 104, 97, 109, 98, 101, 114]) = [99, 104, 97, 109, 98, 101, 114] := by decide +kernel
theorem ztl_20 : ztl (20, 60, [99, 104, 97, 109, 98, 101, 114]) = [99, 104, 97, 109, 98, 101, 114] := by decide +kernel
theorem ztl_21 : ztl (21, 61, [116, 117, 110, 110, 101, 108, 32, 35, 45, 35, 42, 35]) = [116, 117, 110, 110, 101, 108, 32, 35, 45, 35, 42, 35] := by decide +kernel
theorem ztl_22 : ztl (22, 62, [104, 97, 114, 101, 32, 35]) = [104, 97, 114, 101, 32, 35] := by decide +kernel
theorem ztl_23 : ztl (23, 63, [115, 97, 121, 32, 35, 62, 35, 61, 37]) = [115, 97, 121, 32, 35, 62, 35, 61, 37] := by decide +kernel
theorem ztl_24 : ztl (24, 64, [108, 105, 115, 116, 101, 110, 32, 35]) = [108, 105, 115, 116, 101, 110, 32, 35] := by decide +kernel
theorem ztl_25 : ztl (25, 65, [115, 108, 101, 101, 112, 32, 35]) = [115, 108, 101, 101, 112, 32, 35] := by decide +kernel
theorem ztl_26 : ztl (26, 66, [103, 111, 32, 35, 64, 35]) = [103, 111, 32, 35, 64, 35] := by decide +kernel
theorem ztl_27 : ztl (27, 67, [116, 105, 99, 107, 32, 37]) = [116, 105, 99, 107, 32, 37] := by decide +kernel
/-- the kind of the command at a -/
def zkn (T : Int → Int) (n a : Int) : Int := if zbh T n a = 116 then (if zbh T n (a + 1) = 117 then 1 else 7) else if zbh T n a = 115 then (if zbh T n (a + 1) = 108 then 5 else 3) else if zbh T n a = 104 then 2 else if zbh T n a = 108 then 4 else if zbh T n a = 103 then 6 else 0
def zkc (k : Int) : Int := if k = 1 then 117 else if k = 2 then 104 else if k = 3 then 115 else if k = 4 then 108 else if k = 5 then 122 else if k = 6 then 103 else if k = 7 then 116 else 99
def zkl (k : Int) : List Int := if k = 1 then [116, 117, 110, 110, 101, 108, 32, 35, 45, 35, 42, 35] else if k = 2 then [104, 97, 114, 101, 32, 35] else if k = 3 then [115, 97, 121, 32, 35, 62, 35, 61, 37] else if k = 4 then [108, 105, 115, 116, 101, 110, 32, 35] else if k = 5 then [115, 108, 101, 101, 112, 32, 35] else if k = 6 then [103, 111, 32, 35, 64, 35] else if k = 7 then [116, 105, 99, 107, 32, 37] else [99, 104, 97, 109, 98, 101, 114]
def zkm (k : Int) : Int := if k = 1 then 3 else if k = 2 then 1 else if k = 3 then 3 else if k = 4 then 1 else if k = 5 then 1 else if k = 6 then 2 else if k = 7 then 1 else 0
/-- the signs before the j-th number of a form -/
def zkp (k j : Int) : List Int := if (k, j) = (1, 0) then [116, 117, 110, 110, 101, 108, 32] else if (k, j) = (1, 1) then [116, 117, 110, 110, 101, 108, 32, 35, 45] else if (k, j) = (1, 2) then [116, 117, 110, 110, 101, 108, 32, 35, 45, 35, 42] else if (k, j) = (2, 0) then [104, 97, 114, 101, 32] else if (k, j) = (3, 0) then [115, 97, 121, 32] else if (k, j) = (3, 1) then [115, 97, 121, 32, 35, 62] else if (k, j) = (3, 2) then [115, 97, 121, 32, 35, 62, 35, 61] else if (k, j) = (4, 0) then [108, 105, 115, 116, 101, 110, 32] else if (k, j) = (5, 0) then [115, 108, 101, 101, 112, 32] else if (k, j) = (6, 0) then [103, 111, 32] else if (k, j) = (6, 1) then [103, 111, 32, 35, 64] else if (k, j) = (7, 0) then [116, 105, 99, 107, 32] else []
def zkg (k j : Int) : Int := if k = 3 ∧ j = 2 then 37 else if k = 7 then 37 else 35
def zEn (T : Int → Int) (n a : Int) : Int := zfw T n (zkl (zkn T n a)) a
/-- the j-th number of the command at a -/
def zka (T : Int → Int) (n a j : Int) : Int := znv T n (zkg (zkn T n a) j) (zfw T n (zkp (zkn T n a) j) a)
theorem zst_ge {T : Int → Int} {n c q : Int} (h : 0 ≤ zst T n c q) : 0 ≤ q := by
  by_cases a : q < 0
  · rw [zst_lt a] at h
    exact h
  · omega
theorem zfw_ge {T : Int → Int} {n : Int} {r : List Int} {q : Int} (h : 0 ≤ zfw T n r q) : 0 ≤ q := by
  by_cases a : q < 0
  · rw [zfw_lt r a] at h
    exact h
  · omega
theorem zst_in {T : Int → Int} {n c q : Int} (h : 0 ≤ zps q ∧ zps q ≤ n) : 0 ≤ zps (zst T n c q) ∧ zps (zst T n c q) ≤ n := by
  have := zst_bd (T := T) (c := c) h.1 h.2
  omega
theorem zfw_in {T : Int → Int} {n : Int} (r : List Int) {q : Int} (h : 0 ≤ zps q ∧ zps q ≤ n) : 0 ≤ zps (zfw T n r q) ∧ zps (zfw T n r q) ≤ n := by
  have := zfw_bd (T := T) r h.1 h.2
  omega
/-- what the model's readCommand brings at a, as its command k -/
def zRC (T : Int → Int) (n a k : Int) (M M' : zMem) : Prop := zPS T n (zEn T n a) M' ∧ M' 398 18 = k + 1 ∧ M' 407 (4 * k) = zkc (zkn T n a) ∧ (0 ≤ zEn T n a → ∀ j, 0 ≤ j → j < zkm (zkn T n a) → M' 407 (4 * k + 1 + j) = zka T n a j) ∧ (∀ i, i ≠ 398 → i ≠ 407 → M' i = M i) ∧ (∀ j, j ≠ 13 → j ≠ 14 → j ≠ 18 → M' 398 j = M 398 j) ∧ ∀ j, (j < 4 * k ∨ 4 * k + 4 ≤ j) → M' 407 j = M 407 j
theorem zsp_rw {M : zMem} {q i : Int} (h : i ≠ 398) : zsp M q i = M i := funext fun j => zsp_row h j

