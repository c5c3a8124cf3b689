/-! the forms -/
theorem zp_2_0 {g : zG} {A : Nat → Prop} {p : Program} {l : Launch} {e : Env} {R : Room} {s : State} {m : MethodId} {args : Array Value} {below : List Frame} {meth : Method} {c : Code} {H : Heap} {locs : List Loc} {cells slots : Nat} {Q : State → Prop} {cc : ByteArray} {nL : Nat} {own : String} {pc : Nat} {N : zNs} {ls : Array Slot} {rest : List Value} {ad : Int → Nat} {M F : zMem} (C0 : zC g A p s m args c cc nL own) (Wd : zW g A s.heap N ad M F H locs) {i f : Int} (hi : zIn N i) (hk : zkd i = 2) {index : Nat} (hlink : Cond.fieldLink own index "DrumWarren$Command" "kind" "LDrumWarren$CommandKind;" ∈ zT) (hdg : decode cc pc = .ok (.putfield index, 3)) (kk : ∀ (H1 : Heap) (locs1 : List Loc), zW g A s.heap N ad M (zu F i 0 f) H1 locs1 → W p l e R s m args below meth c H1 locs1 cells slots Q (F0 m (pc + 3) ls rest)) : W p l e R s m args below meth c H locs cells slots Q (F0 m pc ls (.ref (g.2.2.2 f) :: .ref (ad i) :: rest)) := z_put (j := 0) (v := .ref (g.2.2.2 f)) (M' := M) (F' := zu F i 0 f) (ty := .object "DrumWarren$CommandKind") C0 Wd hi (zE_2 hk) rfl inZ_2 tyX3 tyX3_ok nmX3 (by decide) hlink (fun _ h => h) rfl rfl rfl rfl (by simp) (by rw [zE_2 hk]; simp [zu_self]) (fun _ _ => rfl) (fun a ha => zu_row ha) Wd.2 hdg kk
theorem zu_tw {M : zMem} {i j v r : Int} : zu (zu M i j v) i j r = zu M i j r := by
  funext a b
  by_cases h : a = i ∧ b = j
  · rw [zu_at h.1 h.2, zu_at h.1 h.2]
  · rw [zu_ne h, zu_ne h, zu_ne h]
/-- the form of a kind, as a text constant -/
def zFq (f : Int) : Int × Int × List Int32 := if f = 10 then (20, 60, [99, 104, 97, 109, 98, 101, 114]) else if f = 11 then (21, 61, [116, 117, 110, 110, 101, 108, 32, 35, 45, 35, 42, 35]) else if f = 12 then (22, 62, [104, 97, 114, 101, 32, 35]) else if f = 13 then (23, 63, [115, 97, 121, 32, 35, 62, 35, 61, 37]) else if f = 14 then (24, 64, [108, 105, 115, 116, 101, 110, 32, 35]) else if f = 15 then (25, 65, [115, 108, 101, 101, 112, 32, 35]) else if f = 16 then (26, 66, [103, 111, 32, 35, 64, 35]) else (27, 67, [116, 105, 99, 107, 32, 37])
theorem zFq_in {f : Int} (h0 : 10 ≤ f) (h1 : f < 18) : zFq f ∈ zTxt ∧ (zFq f).1 = f + 10 ∧ ztl (zFq f) = zkl (f - 10) := by
  have e : f = 10 ∨ f = 11 ∨ f = 12 ∨ f = 13 ∨ f = 14 ∨ f = 15 ∨ f = 16 ∨ f = 17 := by omega
  rcases e with rfl | rfl | rfl | rfl | rfl | rfl | rfl | rfl <;> decide +kernel
theorem zdc_sign {l : List Int} {T : Int → Int} {n c a : Int} (h0 : 0 ≤ a) (h1 : c ≠ 35) (h2 : c ≠ 37) (hc : 0 ≤ c) (h : zbh T n a ≠ c) : zfw T n (c :: l) a = -1 - a := by
  show zfw T n l (zst T n c a) = _
  rw [zst_s0 h0 h1 h2 (fun z => h ((zbh_is hc).mpr z)), zfw_lt l (by omega)]
theorem zdc_sign1 {l : List Int} {T : Int → Int} {n c a : Int} (h0 : 0 ≤ a) (h1 : c ≠ 35) (h2 : c ≠ 37) (hc : 0 ≤ c) (h : zbh T n a = c) : zfw T n (c :: l) a = zfw T n l (a + 1) ∧ a < n := by
  have z := (zbh_is hc).mp h
  refine ⟨?_, z.1⟩
  show zfw T n l (zst T n c a) = _
  rw [zst_s1 h0 h1 h2 z]
/-- a form whose first sign isn't there fails at once; one whose second isn't, behind the first -/
theorem zdc_0 {l : List Int} {T : Int → Int} {n c a : Int} (h0 : 0 ≤ a) (h1 : c ≠ 35) (h2 : c ≠ 37) (hc : 0 ≤ c) (h : zbh T n a ≠ c) : zfw T n (c :: l) a < 0 ∧ zps (zfw T n (c :: l) a) = a := by
  rw [zdc_sign h0 h1 h2 hc h, zps_ng h0]
  omega
theorem zdc_1 {l : List Int} {T : Int → Int} {n c d a : Int} (h0 : 0 ≤ a) (h1 : c ≠ 35) (h2 : c ≠ 37) (hc : 0 ≤ c) (h3 : d ≠ 35) (h4 : d ≠ 37) (hd : 0 ≤ d) (h : zbh T n a = c) (hn : zbh T n (a + 1) ≠ d) : zfw T n (c :: d :: l) a < 0 ∧ zps (zfw T n (c :: d :: l) a) = a + 1 := by
  rw [(zdc_sign1 h0 h1 h2 hc h).1, zdc_sign (by omega) h3 h4 hd hn, zps_ng (by omega)]
  omega
theorem zdc_ge {l : List Int} {T : Int → Int} {n a : Int} (h0 : 0 ≤ a) (hn : a ≤ n) : a ≤ zps (zfw T n l a) := by
  have := (zfw_bd (T := T) (n := n) l (q := a) (by rw [zps_nn h0]; exact h0) (by rw [zps_nn h0]; exact hn)).1
  rw [zps_nn h0] at this
  exact this
theorem zdc_ge1 {l : List Int} {T : Int → Int} {n c a : Int} (h0 : 0 ≤ a) (h1 : c ≠ 35) (h2 : c ≠ 37) (hc : 0 ≤ c) (h : zbh T n a = c) : a + 1 ≤ zps (zfw T n (c :: l) a) := by
  have z := zdc_sign1 (l := l) h0 h1 h2 hc h
  rw [z.1]
  exact zdc_ge (by omega) (by omega)
/-- no other form than the command's own fits, and none fits longer -/
theorem zkn_other {T : Int → Int} {n a k : Int} (h0 : 0 ≤ a) (hn : a ≤ n) (k0 : 0 ≤ k) (k1 : k < 8) (hk : k ≠ zkn T n a) : zfw T n (zkl k) a < 0 ∧ zps (zfw T n (zkl k) a) ≤ zps (zEn T n a) := by
  have hq : a ≤ zps (zEn T n a) := zdc_ge h0 hn
  have e : k = 0 ∨ k = 1 ∨ k = 2 ∨ k = 3 ∨ k = 4 ∨ k = 5 ∨ k = 6 ∨ k = 7 := by omega
  have f0 : zbh T n a ≠ 99 → zfw T n (zkl 0) a < 0 ∧ zps (zfw T n (zkl 0) a) = a := fun h => zdc_0 (l := [104, 97, 109, 98, 101, 114]) h0 (by decide) (by decide) (by decide) h
  have g0 : zbh T n a = 99 → zbh T n (a + 1) ≠ 104 → zfw T n (zkl 0) a < 0 ∧ zps (zfw T n (zkl 0) a) = a + 1 := fun h q => zdc_1 (l := [97, 109, 98, 101, 114]) h0 (by decide) (by decide) (by decide) (by decide) (by decide) (by decide) h q
  have m0 : zbh T n a = 99 → a + 1 ≤ zps (zfw T n (zkl 0) a) := fun h => zdc_ge1 (l := [104, 97, 109, 98, 101, 114]) h0 (by decide) (by decide) (by decide) h
  have f1 : zbh T n a ≠ 116 → zfw T n (zkl 1) a < 0 ∧ zps (zfw T n (zkl 1) a) = a := fun h => zdc_0 (l := [117, 110, 110, 101, 108, 32, 35, 45, 35, 42, 35]) h0 (by decide) (by decide) (by decide) h
  have g1 : zbh T n a = 116 → zbh T n (a + 1) ≠ 117 → zfw T n (zkl 1) a < 0 ∧ zps (zfw T n (zkl 1) a) = a + 1 := fun h q => zdc_1 (l := [110, 110, 101, 108, 32, 35, 45, 35, 42, 35]) h0 (by decide) (by decide) (by decide) (by decide) (by decide) (by decide) h q
  have m1 : zbh T n a = 116 → a + 1 ≤ zps (zfw T n (zkl 1) a) := fun h => zdc_ge1 (l := [117, 110, 110, 101, 108, 32, 35, 45, 35, 42, 35]) h0 (by decide) (by decide) (by decide) h
  have f2 : zbh T n a ≠ 104 → zfw T n (zkl 2) a < 0 ∧ zps (zfw T n (zkl 2) a) = a := fun h => zdc_0 (l := [97, 114, 101, 32, 35]) h0 (by decide) (by decide) (by decide) h
  have g2 : zbh T n a = 104 → zbh T n (a + 1) ≠ 97 → zfw T n (zkl 2) a < 0 ∧ zps (zfw T n (zkl 2) a) = a + 1 := fun h q => zdc_1 (l := [114, 101, 32, 35]) h0 (by decide) (by decide) (by decide) (by decide) (by decide) (by decide) h q
  have m2 : zbh T n a = 104 → a + 1 ≤ zps (zfw T n (zkl 2) a) := fun h => zdc_ge1 (l := [97, 114, 101, 32, 35]) h0 (by decide) (by decide) (by decide) h
  have f3 : zbh T n a ≠ 115 → zfw T n (zkl 3) a < 0 ∧ zps (zfw T n (zkl 3) a) = a := fun h => zdc_0 (l := [97, 121, 32, 35, 62, 35, 61, 37]) h0 (by decide) (by decide) (by decide) h
  have g3 : zbh T n a = 115 → zbh T n (a + 1) ≠ 97 → zfw T n (zkl 3) a < 0 ∧ zps (zfw T n (zkl 3) a) = a + 1 := fun h q => zdc_1 (l := [121, 32, 35, 62, 35, 61, 37]) h0 (by decide) (by decide) (by decide) (by decide) (by decide) (by decide) h q
  have m3 : zbh T n a = 115 → a + 1 ≤ zps (zfw T n (zkl 3) a) := fun h => zdc_ge1 (l := [97, 121, 32, 35, 62, 35, 61, 37]) h0 (by decide) (by decide) (by decide) h
  have f4 : zbh T n a ≠ 108 → zfw T n (zkl 4) a < 0 ∧ zps (zfw T n (zkl 4) a) = a := fun h => zdc_0 (l := [105, 115, 116, 101, 110, 32, 35]) h0 (by decide) (by decide) (by decide) h
  have g4 : zbh T n a = 108 → zbh T n (a + 1) ≠ 105 → zfw T n (zkl 4) a < 0 ∧ zps (zfw T n (zkl 4) a) = a + 1 := fun h q => zdc_1 (l := [115, 116, 101, 110, 32, 35]) h0 (by decide) (by decide) (by decide) (by decide) (by decide) (by decide) h q
  have m4 : zbh T n a = 108 → a + 1 ≤ zps (zfw T n (zkl 4) a) := fun h => zdc_ge1 (l := [105, 115, 116, 101, 110, 32, 35]) h0 (by decide) (by decide) (by decide) h
  have f5 : zbh T n a ≠ 115 → zfw T n (zkl 5) a < 0 ∧ zps (zfw T n (zkl 5) a) = a := fun h => zdc_0 (l := [108, 101, 101, 112, 32, 35]) h0 (by decide) (by decide) (by decide) h
  have g5 : zbh T n a = 115 → zbh T n (a + 1) ≠ 108 → zfw T n (zkl 5) a < 0 ∧ zps (zfw T n (zkl 5) a) = a + 1 := fun h q => zdc_1 (l := [101, 101, 112, 32, 35]) h0 (by decide) (by decide) (by decide) (by decide) (by decide) (by decide) h q
  have m5 : zbh T n a = 115 → a + 1 ≤ zps (zfw T n (zkl 5) a) := fun h => zdc_ge1 (l := [108, 101, 101, 112, 32, 35]) h0 (by decide) (by decide) (by decide) h
  have f6 : zbh T n a ≠ 103 → zfw T n (zkl 6) a < 0 ∧ zps (zfw T n (zkl 6) a) = a := fun h => zdc_0 (l := [111, 32, 35, 64, 35]) h0 (by decide) (by decide) (by decide) h
  have g6 : zbh T n a = 103 → zbh T n (a + 1) ≠ 111 → zfw T n (zkl 6) a < 0 ∧ zps (zfw T n (zkl 6) a) = a + 1 := fun h q => zdc_1 (l := [32, 35, 64, 35]) h0 (by decide) (by decide) (by decide) (by decide) (by decide) (by decide) h q
  have m6 : zbh T n a = 103 → a + 1 ≤ zps (zfw T n (zkl 6) a) := fun h => zdc_ge1 (l := [111, 32, 35, 64, 35]) h0 (by decide) (by decide) (by decide) h
  have f7 : zbh T n a ≠ 116 → zfw T n (zkl 7) a < 0 ∧ zps (zfw T n (zkl 7) a) = a := fun h => zdc_0 (l := [105, 99, 107, 32, 37]) h0 (by decide) (by decide) (by decide) h
  have g7 : zbh T n a = 116 → zbh T n (a + 1) ≠ 105 → zfw T n (zkl 7) a < 0 ∧ zps (zfw T n (zkl 7) a) = a + 1 := fun h q => zdc_1 (l := [99, 107, 32, 37]) h0 (by decide) (by decide) (by decide) (by decide) (by decide) (by decide) h q
  have m7 : zbh T n a = 116 → a + 1 ≤ zps (zfw T n (zkl 7) a) := fun h => zdc_ge1 (l := [105, 99, 107, 32, 37]) h0 (by decide) (by decide) (by decide) h
  have hz : ∀ r, zkn T n a = r → zEn T n a = zfw T n (zkl r) a := fun r h => by unfold zEn; rw [h]
  by_cases t : zbh T n a = 116
  · by_cases u : zbh T n (a + 1) = 117
    · have ek : zkn T n a = 1 := by unfold zkn; rw [if_pos t, if_pos u]
      rw [ek] at hk
      rw [hz 1 ek]
      rw [hz 1 ek] at hq
      have := m1 t
      have q7 := g7 t (by omega)
      rcases e with rfl | rfl | rfl | rfl | rfl | rfl | rfl | rfl
      · have := f0 (by omega); omega
      · exact absurd rfl hk
      · have := f2 (by omega); omega
      · have := f3 (by omega); omega
      · have := f4 (by omega); omega
      · have := f5 (by omega); omega
      · have := f6 (by omega); omega
      · omega
    · have ek : zkn T n a = 7 := by unfold zkn; rw [if_pos t, if_neg u]
      rw [ek] at hk
      rw [hz 7 ek]
      rw [hz 7 ek] at hq
      have := m7 t
      have q1 := g1 t u
      rcases e with rfl | rfl | rfl | rfl | rfl | rfl | rfl | rfl
      · have := f0 (by omega); omega
      · omega
      · have := f2 (by omega); omega
      · have := f3 (by omega); omega
      · have := f4 (by omega); omega
      · have := f5 (by omega); omega
      · have := f6 (by omega); omega
      · exact absurd rfl hk
  · by_cases t2 : zbh T n a = 115
    · by_cases u : zbh T n (a + 1) = 108
      · have ek : zkn T n a = 5 := by unfold zkn; rw [if_neg t, if_pos t2, if_pos u]
        rw [ek] at hk
        rw [hz 5 ek]
        rw [hz 5 ek] at hq
        have := m5 t2
        have q3 := g3 t2 (by omega)
        rcases e with rfl | rfl | rfl | rfl | rfl | rfl | rfl | rfl
        · have := f0 (by omega); omega
        · have := f1 (by omega); omega
        · have := f2 (by omega); omega
        · omega
        · have := f4 (by omega); omega
        · exact absurd rfl hk
        · have := f6 (by omega); omega
        · have := f7 (by omega); omega
      · have ek : zkn T n a = 3 := by unfold zkn; rw [if_neg t, if_pos t2, if_neg u]
        rw [ek] at hk
        rw [hz 3 ek]
        rw [hz 3 ek] at hq
        have := m3 t2
        have q5 := g5 t2 u
        rcases e with rfl | rfl | rfl | rfl | rfl | rfl | rfl | rfl
        · have := f0 (by omega); omega
        · have := f1 (by omega); omega
        · have := f2 (by omega); omega
        · exact absurd rfl hk
        · have := f4 (by omega); omega
        · omega
        · have := f6 (by omega); omega
        · have := f7 (by omega); omega
    · by_cases t3 : zbh T n a = 104
      · have ek : zkn T n a = 2 := by unfold zkn; rw [if_neg t, if_neg t2, if_pos t3]
        rw [ek] at hk
        rcases e with rfl | rfl | rfl | rfl | rfl | rfl | rfl | rfl
        · have := f0 (by omega); omega
        · have := f1 (by omega); omega
        · exact absurd rfl hk
        · have := f3 (by omega); omega
        · have := f4 (by omega); omega
        · have := f5 (by omega); omega
        · have := f6 (by omega); omega
        · have := f7 (by omega); omega
      · by_cases t4 : zbh T n a = 108
        · have ek : zkn T n a = 4 := by unfold zkn; rw [if_neg t, if_neg t2, if_neg t3, if_pos t4]
          rw [ek] at hk
          rcases e with rfl | rfl | rfl | rfl | rfl | rfl | rfl | rfl
          · have := f0 (by omega); omega
          · have := f1 (by omega); omega
          · have := f2 (by omega); omega
          · have := f3 (by omega); omega
          · exact absurd rfl hk
          · have := f5 (by omega); omega
          · have := f6 (by omega); omega
          · have := f7 (by omega); omega
        · by_cases t5 : zbh T n a = 103
          · have ek : zkn T n a = 6 := by unfold zkn; rw [if_neg t, if_neg t2, if_neg t3, if_neg t4, if_pos t5]
            rw [ek] at hk
            rcases e with rfl | rfl | rfl | rfl | rfl | rfl | rfl | rfl
            · have := f0 (by omega); omega
            · have := f1 (by omega); omega
            · have := f2 (by omega); omega
            · have := f3 (by omega); omega
            · have := f4 (by omega); omega
            · have := f5 (by omega); omega
            · exact absurd rfl hk
            · have := f7 (by omega); omega
          · have ek : zkn T n a = 0 := by unfold zkn; rw [if_neg t, if_neg t2, if_neg t3, if_neg t4, if_neg t5]
            rw [ek] at hk
            rcases e with rfl | rfl | rfl | rfl | rfl | rfl | rfl | rfl
            · exact absurd rfl hk
            · have := f1 (by omega); omega
            · have := f2 (by omega); omega
            · have := f3 (by omega); omega
            · have := f4 (by omega); omega
            · have := f5 (by omega); omega
            · have := f6 (by omega); omega
            · have := f7 (by omega); omega
theorem zkn_bd {T : Int → Int} {n a : Int} : 0 ≤ zkn T n a ∧ zkn T n a < 8 := by
  unfold zkn
  repeat' split
  all_goals omega
/-- how many numbers stand among the first i signs -/
def zct (q : Int × Int × List Int32) : Nat → Int
  | 0 => 0
  | i + 1 => zct q i + (if ztx q (i : Int) = 35 ∨ ztx q (i : Int) = 37 then 1 else 0)
theorem zct_all : ∀ q ∈ zTxt, ∀ i : Fin 13, (0 ≤ zct q i.val ∧ zct q i.val ≤ 3) ∧ ((ztx q (i.val : Int) = 35 ∨ ztx q (i.val : Int) = 37) → zct q i.val < 3) := by decide +kernel
theorem zct_bd {q : Int × Int × List Int32} (hq : q ∈ zTxt) {i : Nat} (hi : i ≤ 12) : (0 ≤ zct q i ∧ zct q i ≤ 3) ∧ ((ztx q (i : Int) = 35 ∨ ztx q (i : Int) = 37) → zct q i < 3) := zct_all q hq ⟨i, by omega⟩
theorem zct_in {q : Int × Int × List Int32} {i j : Nat} (h : i < j) (hs : ztx q (i : Int) = 35 ∨ ztx q (i : Int) = 37) : zct q i < zct q j := by
  induction j with
  | zero => omega
  | succ j ih =>
    show _ < zct q j + (if ztx q (j : Int) = 35 ∨ ztx q (j : Int) = 37 then 1 else 0)
    by_cases e : i = j
    · subst e
      rw [if_pos hs]
      omega
    · have := ih (by omega)
      split <;> omega
/-- the class's reader holds the text T of n signs -/
def zCS (T : Int → Int) (n : Int) (M : zMem) : Prop := M 376 = T ∧ M 375 1 = n ∧ (0 ≤ n ∧ n ≤ 60)
