/-! texts in a builder; undo, execute, feed, and the two writers -/
/-- the builder at 396 holds the text L -/
def zTx (M : zMem) (L : List Int) : Prop := M 396 1 = 0 ∧ M 396 3 = L.length ∧ ∀ j : Nat, j < L.length → L[j]? = some (M 397 (j : Int))
theorem zTx_C {M : zMem} {L : List Int} (x : Int) (h : zTx M L) : zTx (zapC x M) (L ++ [x]) := by
  obtain ⟨a, b, c⟩ := h
  refine ⟨by rw [zapC_c]; exact a, by rw [zapC_n, b]; simp, fun j hj => ?_⟩
  unfold zapC
  rw [b]
  rw [List.length_append] at hj
  by_cases e : j = L.length
  · subst e
    rw [zu_same]
    simp
  · have h1 : j < L.length := by simp at hj; omega
    rw [zu_ne (by omega), zu_ne (by omega), List.getElem?_append_left h1, c j h1]
/-- the digits of a number below 10000 -/
def zdgs (x : Int) : List Int :=
  if x < 10 then [48 + x % 10]
  else if x < 100 then [48 + x / 10, 48 + x % 10]
  else if x < 1000 then [48 + x / 100 % 10, 48 + x % 100 / 10, 48 + x % 100 % 10]
  else [48 + x / 100 / 10, 48 + x / 100 % 10, 48 + x % 100 / 10, 48 + x % 100 % 10]
theorem zdgs_len {x : Int} (h : x < 10000) : ((zdgs x).length : Int) = zlen x := by
  unfold zdgs zlen
  by_cases h1 : x < 10
  · rw [if_pos h1, if_pos h1]; rfl
  · rw [if_neg h1, if_neg h1]
    by_cases h2 : x < 100
    · rw [if_pos h2, if_pos h2]; rfl
    · rw [if_neg h2, if_neg h2]
      by_cases h3 : x < 1000
      · rw [if_pos h3, if_pos h3]; rfl
      · rw [if_neg h3, if_neg h3, if_pos h]; rfl
theorem zTx_I {M : zMem} {L : List Int} {x : Int} (hx : x < 10000) (h : zTx M L) : zTx (zapI x M) (L ++ zdgs x) := by
  obtain ⟨a, b, c⟩ := h
  refine ⟨by rw [zapI_c]; exact a, by rw [zapI_n, b, ← zdgs_len hx]; simp, fun j hj => ?_⟩
  rw [List.length_append] at hj
  unfold zapI
  rw [zu_ne (by omega), b, ← zdgs_len hx]
  have hold : ∀ (M1 : zMem) (i v : Int), (j : Int) ≠ i → zu M1 397 i v 397 (j : Int) = M1 397 (j : Int) := fun M1 i v hi => zu_ne (by omega)
  have hnew : ∀ (M1 : zMem) (i v : Int), (j : Int) = i → zu M1 397 i v 397 (j : Int) = v := fun M1 i v hi => by rw [hi]; exact zu_same _ _ _ _
  by_cases h1 : j < L.length
  · rw [List.getElem?_append_left h1, c j h1]
    congr 1
    symm
    unfold zgch zdgs
    by_cases q1 : x < 10
    · rw [if_pos q1, if_pos q1, hold _ _ _ (by simp; omega)]
    · rw [if_neg q1, if_neg q1]
      by_cases q2 : x < 100
      · rw [if_pos q2, if_pos q2, hold _ _ _ (by simp; omega), hold _ _ _ (by simp; omega)]
      · rw [if_neg q2, if_neg q2]
        by_cases q3 : x < 1000
        · rw [if_pos q3, if_pos q3, hold _ _ _ (by simp; omega), hold _ _ _ (by simp; omega), hold _ _ _ (by simp; omega)]
        · rw [if_neg q3, if_neg q3, hold _ _ _ (by simp; omega), hold _ _ _ (by simp; omega), hold _ _ _ (by simp; omega), hold _ _ _ (by simp; omega)]
  · rw [List.getElem?_append_right (by omega)]
    obtain ⟨k, rfl⟩ : ∃ k, j = L.length + k := ⟨j - L.length, by omega⟩
    rw [show L.length + k - L.length = k by omega]
    unfold zgch zdgs at *
    by_cases q1 : x < 10
    · rw [if_pos q1] at hj ⊢
      rw [if_pos q1]
      have hk : k = 0 := by simp at hj; omega
      subst hk
      rw [hnew _ _ _ (by simp)]
      rfl
    · rw [if_neg q1] at hj ⊢
      rw [if_neg q1]
      by_cases q2 : x < 100
      · rw [if_pos q2] at hj ⊢
        rw [if_pos q2]
        have hk : k = 0 ∨ k = 1 := by simp at hj; omega
        rcases hk with rfl | rfl
        · rw [hnew _ _ _ (by simp; omega)]; rfl
        · rw [hold _ _ _ (by simp; omega), hnew _ _ _ (by simp; omega)]; rfl
      · rw [if_neg q2] at hj ⊢
        rw [if_neg q2]
        by_cases q3 : x < 1000
        · rw [if_pos q3] at hj ⊢
          rw [if_pos q3]
          have hk : k = 0 ∨ k = 1 ∨ k = 2 := by simp at hj; omega
          rcases hk with rfl | rfl | rfl
          · rw [hnew _ _ _ (by simp; omega)]; rfl
          · rw [hold _ _ _ (by simp; omega), hnew _ _ _ (by simp; omega)]; rfl
          · rw [hold _ _ _ (by simp; omega), hold _ _ _ (by simp; omega), hnew _ _ _ (by simp; omega)]; rfl
        · rw [if_neg q3] at hj ⊢
          rw [if_neg q3]
          have hk : k = 0 ∨ k = 1 ∨ k = 2 ∨ k = 3 := by simp at hj; omega
          rcases hk with rfl | rfl | rfl | rfl
          · rw [hnew _ _ _ (by simp; omega)]; rfl
          · rw [hold _ _ _ (by simp; omega), hnew _ _ _ (by simp; omega)]; rfl
          · rw [hold _ _ _ (by simp; omega), hold _ _ _ (by simp; omega), hnew _ _ _ (by simp; omega)]; rfl
          · rw [hold _ _ _ (by simp; omega), hold _ _ _ (by simp; omega), hold _ _ _ (by simp; omega), hnew _ _ _ (by simp; omega)]; rfl
theorem zTx_R {M : zMem} {L : List Int} (h : zTx M L) : ∀ k : Nat, zTx (zapR k M) (L ++ List.replicate k 33)
  | 0 => by
    show zTx M (L ++ [])
    rw [List.append_nil]
    exact h
  | k + 1 => by
    have := zTx_C 33 (zTx_R h k)
    rw [List.append_assoc, ← List.replicate_succ'] at this
    exact this
theorem zTx_0 {M : zMem} (h : M 396 1 = 0) : zTx (zst0 0 M) [] := ⟨by rw [zst0_c]; exact h, by rw [zst0_n]; rfl, fun j hj => absurd hj (by simp)⟩
/-- the text of the message at place p -/
def zmt (V : Int → Int) (p : Int) : List Int := zdgs (V (96 + 47 * p + 0)) ++ [58] ++ zdgs (V (96 + 47 * p + 1)) ++ [62] ++ zdgs (V (96 + 47 * p + 2)) ++ [61] ++ zdgs (V (96 + 47 * p + 3)) ++ [V (96 + 47 * p + 4)] ++ List.replicate (V (96 + 47 * p + 5)).toNat 33
theorem zTx_M {t p : Int} {V : Int → Int} {M : zMem} (hc : M 396 1 = 0) (hI : zIV t V) (ht : t ≤ 9999) (hp : 0 ≤ p ∧ p < V 2) : zTx (zwM p V M) (zmt V p) := by
  obtain ⟨m0, m1, m2, m3, -⟩ := hI.2.2.2.2.2.2.1 p hp.1 hp.2
  have v3 := (hI.2.2.2.1 3 (by decide) (by decide)).2
  have v1 := hI.2.1.2
  unfold zwM zmt
  exact zTx_R (zTx_C _ (zTx_I (by omega) (zTx_C 61 (zTx_I (by omega) (zTx_C 62 (zTx_I (by omega) (zTx_C 58 (zTx_I (by omega) (zTx_0 hc))))))))) _
theorem zdgs_le {x : Int} : (zdgs x).length ≤ 4 := by
  unfold zdgs
  repeat' split
  all_goals simp
theorem zdgs_b {x : Int} (h0 : 0 ≤ x) (h1 : x < 10000) : ∀ c ∈ zdgs x, 48 ≤ c ∧ c ≤ 57 := by
  intro c hc
  unfold zdgs at hc
  split at hc
  · simp only [List.mem_cons, List.not_mem_nil, or_false] at hc; omega
  · split at hc
    · simp only [List.mem_cons, List.not_mem_nil, or_false] at hc; omega
    · split at hc
      · simp only [List.mem_cons, List.not_mem_nil, or_false] at hc; omega
      · simp only [List.mem_cons, List.not_mem_nil, or_false] at hc; omega
theorem zmt_b {t p : Int} {V : Int → Int} (hI : zIV t V) (ht : t ≤ 9999) (hp : 0 ≤ p ∧ p < V 2) : ∀ c ∈ zmt V p, 0 ≤ c ∧ c < 128 := by
  obtain ⟨m0, m1, m2, m3, m4, -⟩ := hI.2.2.2.2.2.2.1 p hp.1 hp.2
  have v3 := (hI.2.2.2.1 3 (by decide) (by decide)).2
  have v1 := hI.2.1.2
  intro c hc
  unfold zmt at hc
  simp only [List.mem_append, List.mem_cons, List.not_mem_nil, or_false, List.mem_replicate] at hc
  rcases hc with ((((((((h | h) | h) | h) | h) | h) | h) | h) | h)
  · have := zdgs_b m0.1 (by omega) c h; omega
  · omega
  · have := zdgs_b m1.1 (by omega) c h; omega
  · omega
  · have := zdgs_b m2.1 (by omega) c h; omega
  · omega
  · have := zdgs_b m3.1 (by omega) c h; omega
  · omega
  · omega
theorem zdgs_1 {x : Int} (h1 : x < 10) : (zdgs x).length = 1 := by
  unfold zdgs
  rw [if_pos h1]
  rfl
theorem zdgs_2 {x : Int} (h1 : x < 100) : (zdgs x).length ≤ 2 := by
  unfold zdgs
  by_cases h : x < 10
  · rw [if_pos h]; simp
  · rw [if_neg h, if_pos h1]; simp
theorem zmt_len {t p : Int} {V : Int → Int} (hI : zIV t V) (ht : t ≤ 9999) (hp : 0 ≤ p ∧ p < V 2) : (zmt V p).length ≤ 16 := by
  obtain ⟨m0, m1, m2, m3, m4, m5, -⟩ := hI.2.2.2.2.2.2.1 p hp.1 hp.2
  have v1 := hI.2.1.2
  have e0 := zdgs_le (x := V (96 + 47 * p + 0))
  have e1 := zdgs_1 (x := V (96 + 47 * p + 1)) (by omega)
  have e2 := zdgs_1 (x := V (96 + 47 * p + 2)) (by omega)
  have e3 := zdgs_2 (x := V (96 + 47 * p + 3)) (by omega)
  have e5 : (V (96 + 47 * p + 5)).toNat ≤ 3 := by omega
  unfold zmt
  simp only [List.length_append, List.length_cons, List.length_nil, List.length_replicate]
  omega
theorem zOu_of {M : zMem} {L : List Int} (h : zTx M L) (hl : L.length ≤ 16) (hb : ∀ c ∈ L, 0 ≤ c ∧ c < 128) : zOu M := by
  refine ⟨h.1, ⟨by rw [h.2.1]; omega, by rw [h.2.1]; omega⟩, fun j j0 j1 => ?_⟩
  rw [h.2.1] at j1
  have hj : j.toNat < L.length := by omega
  have := h.2.2 j.toNat hj
  rw [show ((j.toNat : Nat) : Int) = j by omega] at this
  exact hb _ (List.mem_of_getElem? this)
theorem zwM_row {V : Int → Int} {p : Int} {M : zMem} {i : Int} (h1 : i ≠ 396) (h2 : i ≠ 397) : zwM p V M i = M i := by
  funext j
  unfold zwM
  rw [zapR_row h1 h2, zapC_row h1 h2, zapI_row h1 h2, zapC_row h1 h2, zapI_row h1 h2, zapC_row h1 h2, zapI_row h1 h2, zapC_row h1 h2, zapI_row h1 h2, zst0_row h1 h2]
/-- the output alone is another -/
theorem zLw.out {t many : Int} {V : Int → Int} {U : Int → Int → Int} {M F M' : zMem} (h : zLw t many V U M F) (hr : ∀ i, i ≠ 396 → i ≠ 397 → M' i = M i) (ho : zOu M') : zLw t many V U M' F := by
  obtain ⟨a1, a2, a3, a4, a5, ⟨T, n, a6, a7⟩, a8⟩ := h
  refine ⟨zRS_but a1 a4.2.1.1.2.1.2 a4.2.1.1.2.2.1.2 (fun i i0 i1 i2 => ⟨hr i (by omega) (by omega), rfl⟩), a2, zHi_in a3 (fun i i0 i1 => ⟨hr i (by omega) (by omega), rfl⟩), a4, a5, ⟨T, n, ?_, a7⟩, ho⟩
  obtain ⟨b1, b2, b3⟩ := a6
  exact ⟨by rw [hr 376 (by omega) (by omega)]; exact b1, by rw [hr 375 (by omega) (by omega)]; exact b2, b3⟩
theorem hq_writeMessage (l : Launch) (g : zG) (zX : va_W) (ad : Int → Nat) (M F : zMem) {t many : Int} {V : Int → Int} {U : Int → Int → Int} (hL : zLw t many V U M F) (x0 : Int) (hx0 : zR x0) (ht : t ≤ 9999) : hMt l yL_writeMessage cL_writeMessage 3 [(0, 5, 6, 28)] 9 1 6 g zX ad [.ref (ad 0), .int (zI x0)] M F (zPi (fun k M' F' => (zpl x0 V ≠ -1 ∧ k = ((zmt V (zpl x0 V)).length : Int) ∧ zTx M' (zmt V (zpl x0 V)) ∧ zLw t many V U M' F') ∨ (zpl x0 V = -1 ∧ k = -13 ∧ zQm t many V U M F M' F'))) := by
  refine hMt.mono (ch_writeMessage l g zX ad M F x0 _ _ (ct_X11_writeMessage l g zX ad M F V t x0 hx0 hL.rs hL.iv hL.id hL.ou.1 hL.ou.2.1 (fun q q0 q1 => by have h1 := (hL.iv.2.2.2.2.2.2.1 q q0 q1).1; have h2 := (hL.iv.2.2.2.1 3 (by decide) (by decide)).2; omega)) (fun E M' F' h => h.1)) (fun k M' F' h => ?_)
  rcases h with ⟨h, rfl, rfl, rfl⟩ | ⟨rfl, -, h, rfl, rfl⟩
  · have hb := zlast_bd (P := fun q => V (96 + 47 * q + 0) = x0) (V 2).toNat
    have v2 := hL.iv.2.2.1
    have hp : 0 ≤ zpl x0 V ∧ zpl x0 V < V 2 := by
      have h1 : -1 ≤ zpl x0 V := hb.1
      have h2 : zpl x0 V < (((V 2).toNat : Nat) : Int) := hb.2
      omega
    have hT := zTx_M (M := M) hL.ou.1 hL.iv ht hp
    exact Or.inl ⟨h, hT.2.1, hT, hL.out (fun i i0 i1 => zwM_row i0 i1) (zOu_of hT (zmt_len hL.iv ht hp) (zmt_b hL.iv ht hp))⟩
  · exact Or.inr ⟨Decidable.not_not.mp h, rfl, zQm.rf hL⟩
/-- the signs of a code -/
def zct5 (x : Int) : Nat → List Int
  | 0 => []
  | k + 1 => zct5 x k ++ [if zbt x (k : Int) = 1 then 120 else 46]
theorem zct5_len (x : Int) : ∀ k : Nat, (zct5 x k).length = k
  | 0 => rfl
  | k + 1 => by
    show (zct5 x k ++ [_]).length = _
    rw [List.length_append, zct5_len x k]
    rfl
theorem zct5_b (x : Int) : ∀ k : Nat, ∀ c ∈ zct5 x k, 0 ≤ c ∧ c < 128
  | 0 => fun c h => absurd h (by simp [zct5])
  | k + 1 => fun c h => by
    have h' : c ∈ zct5 x k ++ [if zbt x (k : Int) = 1 then 120 else 46] := h
    rcases List.mem_append.mp h' with h | h
    · exact zct5_b x k c h
    · rw [List.mem_singleton] at h
      rw [h]
      split <;> decide
theorem zTx_5 {M : zMem} (hc : M 396 1 = 0) (x : Int) : ∀ k : Nat, zTx (zcC x k M) (zct5 x k)
  | 0 => zTx_0 hc
  | k + 1 => zTx_C _ (zTx_5 hc x k)
theorem zcC_row' {x : Int} {M : zMem} {i : Int} (h1 : i ≠ 396) (h2 : i ≠ 397) : ∀ k : Nat, zcC x k M i = M i
  | 0 => funext fun j => zst0_row h1 h2 j
  | k + 1 => by
    funext j
    show zapC _ (zcC x k M) i j = _
    rw [zapC_row h1 h2, zcC_row' h1 h2 k]
theorem hq_writeCode (l : Launch) (g : zG) (zX : va_W) (ad : Int → Nat) (M F : zMem) {t many : Int} {V : Int → Int} {U : Int → Int → Int} (hL : zLw t many V U M F) (x0 : Int) (hx0 : zR x0) : hMt l yL_writeCode cL_writeCode 3 [(0, 5, 6, 22)] 9 1 6 g zX ad [.ref (ad 0), .int (zI x0)] M F (zPi (fun k M' F' => ((0 ≤ x0 ∧ x0 ≤ 15) ∧ k = 5 ∧ zTx M' (zct5 x0 5) ∧ zLw t many V U M' F') ∨ (¬ (0 ≤ x0 ∧ x0 ≤ 15) ∧ k = -12 ∧ zQm t many V U M F M' F'))) := by
  refine hMt.mono (ch_writeCode l g zX ad M F x0 _ _ (ct_X11_writeCode l g zX ad M F x0 hx0 hL.ou.1 hL.ou.2.1) (fun E M' F' h => h.1)) (fun k M' F' h => ?_)
  rcases h with ⟨h, rfl, rfl, rfl⟩ | ⟨rfl, -, h, rfl, rfl⟩
  · have hT := zTx_5 (M := M) hL.ou.1 x0 5
    exact Or.inl ⟨h, rfl, hT, hL.out (fun i i0 i1 => zcC_row' i0 i1 5) (zOu_of hT (by rw [zct5_len]; decide) (zct5_b x0 5))⟩
  · exact Or.inr ⟨h, rfl, zQm.rf hL⟩
theorem hq_feed (l : Launch) (g : zG) (zX : va_W) (ad : Int → Nat) (M F : zMem) {t many : Int} {V : Int → Int} {U : Int → Int → Int} (hL : zLw t many V U M F) (x0 : Int) (hx0 : zR x0) (hx9 : 0 ≤ x0 ∧ x0 < 65536) : hMt l yL_feed cL_feed 3 [(0, 5, 6, 14)] 9 1 6 g zX ad [.ref (ad 0), .int (zI x0)] M F (zPi (fun k M' F' => zLw t many V U M' F')) := by
  obtain ⟨a1, a2, a3, a4, a5, ⟨T, n, ⟨a6, a7, a8⟩, a9⟩, a10⟩ := id hL
  refine hMt.mono (ch_feed l g zX ad M F x0 _ _ (ct_X11_feed l g zX ad M F x0 hx0 (by rw [a7]; exact a8) hx9) (fun E M' F' h => h.1)) (fun k M' F' h => ?_)
  rcases h with ⟨h, rfl, rfl, rfl⟩ | ⟨rfl, -, h, rfl, rfl⟩
  · rw [a7] at *
    refine ⟨zRS_but a1 a4.2.1.1.2.1.2 a4.2.1.1.2.2.1.2 (fun i i0 i1 i2 => ⟨by rw [zu_row (by omega), zu_row (by omega)], rfl⟩), a2, zHi_in a3 (fun i i0 i1 => ⟨by rw [zu_row (by omega), zu_row (by omega)], rfl⟩), a4, a5, ⟨fun j => if j = n then x0 else T j, n + 1, ⟨?_, zu_same _ _ _ _, by omega, by omega⟩, fun j => ?_⟩, ?_⟩
    · rw [zu_row (by decide), ← a6]
      funext j
      show (if 376 = 376 ∧ j = n then x0 else M 376 j) = if j = n then x0 else M 376 j
      by_cases hj : j = n
      · rw [if_pos hj, if_pos ⟨rfl, hj⟩]
      · rw [if_neg hj, if_neg (fun q => hj q.2)]
    · show 0 ≤ (if j = n then x0 else T j) ∧ (if j = n then x0 else T j) < 65536
      split
      · exact hx9
      · exact a9 j
    · unfold zOu
      rw [zu_row (by decide), zu_row (by decide), zu_row (by decide), zu_row (by decide)]
      exact a10
  · exact hL
theorem hq_executes (l : Launch) (g : zG) (zX : va_W) (ad : Int → Nat) (M F : zMem) {t many : Int} {V : Int → Int} {U : Int → Int → Int} (hL : zLw t many V U M F) (ht : t ≤ 50000000) : hMt l yL_executes cL_executes 2 [(0, 4, 5, 22), (0, 4, 8, 107)] 11 1 6 g zX ad [.ref (ad 0)] M F (zPi (fun k M' F' => (0 ≤ k ∧ ∃ W : Int → Int, zLw (t + 7000) (zm8 many) W (zcons V U) M' F') ∨ (k < 0 ∧ zLw t many V U M' F'))) := by
  obtain ⟨a1, a2, a3, a4, a5, ⟨T, n, a6, a9⟩, a10⟩ := id hL
  have ht0 := hL.t0
  refine hMt.mono (ch_executes l g zX ad M F _ _ (ct_X11_execute l g zX ad M F T n t many V U a6 a9 hL.rs hL.gd hL.hi ⟨hL.t0, by omega⟩) (fun E M' F' ⟨m, _, h, _⟩ => by rcases h with h | h <;> first | exact Or.inl h.1 | exact Or.inr h.1)) (fun k M' F' h => ?_)
  have old : ∀ {M' F' : zMem}, zXF M F M' F' → (∃ (T : Int → Int) (n : Int), zCS T n M' ∧ ∀ j, 0 ≤ T j ∧ T j < 65536) ∧ zOu M' ∧ zRp 32 F' := fun {M' F'} hx => by
    refine ⟨⟨T, 0, ⟨(hx.1 376 (by omega)).1.trans a6.1, hx.2.2, by decide, by decide⟩, a9⟩, ?_, zRp_32 a2 (hx.1 (32 + 6) (by omega)).2⟩
    unfold zOu
    rw [(hx.1 396 (by omega)).1, (hx.1 397 (by omega)).1]
    exact a10
  rcases h with ⟨m, hgo, q2, q3, q4, q5, q6, q7, q8, q9⟩ | ⟨rfl, m, q1, q2, q3, q4, q5⟩ | ⟨rfl, m, q1, q2, q3, q4, q5⟩
  · have hat := zAt_bd a6.2.2.1 m hgo.1
    have hm8 : (m : Int) ≤ 8 := by have := a6.2.2.2; omega
    have hW : zGd (t + 7000) (zVi T n V (m + 1)) := zGd_up (zG_Vi (T := T) (n := n) hL.gd hL.t0 (m + 1)) (by omega)
    obtain ⟨o1, o2, o3⟩ := old q9
    refine Or.inl ⟨by omega, zVi T n V (m + 1), q5, o3, zHi_up q6 (by omega), ⟨by omega, hW, zNn_Vi hL.gd hL.t0 hL.nn (m + 1)⟩, fun k k0 k1 => ?_, o1, o2⟩
    have := zm8_le many
    show zNn (if k = 0 then V else U (k - 1))
    split
    · exact hL.nn
    · exact a5 (k - 1) (by omega) (by omega)
  · obtain ⟨o1, o2, o3⟩ := old q5
    exact Or.inr ⟨by decide, q3, o3, q4, a4, a5, o1, o2⟩
  · obtain ⟨o1, o2, o3⟩ := old q5
    exact Or.inr ⟨by decide, q3, o3, q4, a4, a5, o1, o2⟩
theorem hq_undo (l : Launch) (g : zG) (zX : va_W) (ad : Int → Nat) (M F : zMem) {t many : Int} {V : Int → Int} {U : Int → Int → Int} (hL : zLw t many V U M F) (hm : 0 < many) : hMt l yL_undo cL_undo 2 [(0, 4, 5, 14)] 9 1 6 g zX ad [.ref (ad 0)] M F (zPi (fun k M' F' => k = many - 1 ∧ zLw t (many - 1) (U 0) (fun k => U (k + 1)) M' F')) := by
  obtain ⟨a1, a2, a3, a4, a5, ⟨T, n, a6, a7⟩, a8⟩ := id hL
  refine hMt.mono (ch_undo l g zX ad M F _ _ (ct_X11_undo l g zX ad M F V t t many U hL.rs hL.gd hL.hi) (fun E M' F' h => h.1)) (fun k M' F' h => ?_)
  rcases h with ⟨h, rfl, h3, h4, hF⟩ | ⟨-, -, h, -⟩
  · refine ⟨rfl, h3, zRp_32 a2 (hF (32 + 6) (by omega) (by omega)).2, h4, ⟨hL.t0, (a3.2.2.2.1 0 (by decide) hm).2, a5 0 (by decide) hm⟩, fun k k0 k1 => a5 (k + 1) (by omega) (by omega), ⟨T, n, ?_, a7⟩, ?_⟩
    · obtain ⟨b1, b2, b3⟩ := a6
      exact ⟨by rw [(hF 376 (by omega) (by omega)).1]; exact b1, by rw [(hF 375 (by omega) (by omega)).1]; exact b2, b3⟩
    · unfold zOu
      rw [(hF 396 (by omega) (by omega)).1, (hF 397 (by omega) (by omega)).1]
      exact a8
  · omega
