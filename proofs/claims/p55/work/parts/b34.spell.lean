/-! spells, numberOf, execute -/
theorem zTx_q {M M' : zMem} {L : List Int} (h : zTx M L) (e1 : M' 396 = M 396) (e2 : M' 397 = M 397) : zTx M' L := by
  unfold zTx
  rw [e1, e2]
  exact h
theorem zTx_s {M : zMem} {bs : List Int32} (h : zTx M (bs.map Int32.toInt)) {k : Nat} (hk : (k : Int) < (bs.length : Int)) : (if 0 ≤ (k : Int) ∧ (k : Int) < M 396 3 then M 397 (k : Int) else -11) = zsx bs (k : Int) := by
  obtain ⟨-, h2, h3⟩ := h
  rw [List.length_map] at h2
  have := h3 k (by rw [List.length_map]; omega)
  rw [List.getElem?_map] at this
  rw [if_pos ⟨by omega, by omega⟩]
  unfold zsx
  rw [Int.toNat_natCast, List.getD_eq_getElem?_getD]
  cases hb : bs[k]? with
  | none => rw [hb] at this; exact absurd this (by simp)
  | some b => rw [hb] at this; exact (Option.some.inj this).symm
theorem zTx_e {M : zMem} {L : List Int} (h : zTx M L) {x : Int} (hx : x = L.length) : (if 0 ≤ x ∧ x < M 396 3 then M 397 x else -11) = -11 := by
  rw [if_neg (by rw [h.2.1, hx]; omega)]
theorem zTx_g {M : zMem} {L : List Int} (h : zTx M L) {k : Nat} (hk : (k : Int) < (L.length : Int)) : (if 0 ≤ (k : Int) ∧ (k : Int) < M 396 3 then M 397 (k : Int) else -11) = L.getD k 0 := by
  obtain ⟨-, h2, h3⟩ := h
  rw [if_pos ⟨by omega, by omega⟩, List.getD_eq_getElem?_getD, h3 k (by omega)]
  rfl
/-- the number behind the sign = -/
def znu (s : Int × Int) (c : Int) : Int × Int := (if ¬ s.2 = 0 ∧ 48 ≤ c ∧ c ≤ 57 then 10 * s.1 + c - 48 else s.1, if ¬ s.2 = 0 ∨ c = 61 then 1 else 0)
theorem znu_step {L : List Int} {k : Nat} (hk : (k : Int) < (L.length : Int)) {a b : Int} (h : (a, b) = (L.take k).foldl znu ((0 : Int), (0 : Int))) : ((if ¬ b = 0 ∧ 48 ≤ L.getD k 0 ∧ L.getD k 0 ≤ 57 then 10 * a + L.getD k 0 - 48 else a), (if ¬ b = 0 ∨ L.getD k 0 = 61 then (1 : Int) else 0)) = (L.take (k + 1)).foldl znu ((0 : Int), (0 : Int)) := by
  have hk' : k < L.length := by omega
  have e : L.take (k + 1) = L.take k ++ [L.getD k 0] := by
    rw [List.take_succ, List.getD_eq_getElem?_getD, List.getElem?_eq_getElem hk']
    rfl
  rw [e, List.foldl_append, ← h]
  rfl
theorem znu_a : ∀ A : List Int, (∀ c ∈ A, c ≠ 61) → A.foldl znu ((0 : Int), (0 : Int)) = (0, 0)
  | [], _ => rfl
  | c :: A, h => by
    have hc := h c List.mem_cons_self
    rw [List.foldl_cons, show znu (0, 0) c = (0, 0) by
      unfold znu
      rw [if_neg (fun q => q.1 rfl), if_neg (fun q => q.elim (fun z => z rfl) hc)]]
    exact znu_a A (fun d hd => h d (List.mem_cons_of_mem _ hd))
theorem znu_z {x : Int} : ∀ A : List Int, (∀ c ∈ A, ¬ (48 ≤ c ∧ c ≤ 57)) → A.foldl znu (x, (1 : Int)) = (x, 1)
  | [], _ => rfl
  | c :: A, h => by
    have hc := h c List.mem_cons_self
    rw [List.foldl_cons, show znu (x, 1) c = (x, 1) by
      unfold znu
      rw [if_neg (fun q => hc q.2), if_pos (Or.inl (by show ¬ (1 : Int) = 0; decide))]]
    exact znu_z A (fun d hd => h d (List.mem_cons_of_mem _ hd))
theorem znu_1 {x c : Int} (h : 48 ≤ c ∧ c ≤ 57) : znu (x, 1) c = (10 * x + c - 48, 1) := by
  unfold znu
  rw [if_pos ⟨by show ¬ (1 : Int) = 0; decide, h⟩, if_pos (Or.inl (by show ¬ (1 : Int) = 0; decide))]
theorem znu_d {n : Int} (h0 : 0 ≤ n) (h1 : n < 100) : (zdgs n).foldl znu ((0 : Int), (1 : Int)) = (n, 1) := by
  unfold zdgs
  by_cases h : n < 10
  · rw [if_pos h]
    show znu (0, 1) (48 + n % 10) = _
    rw [znu_1 (by omega)]
    exact Prod.ext (by show 10 * 0 + (48 + n % 10) - 48 = n; omega) rfl
  · rw [if_neg h, if_pos h1]
    show znu (znu (0, 1) (48 + n / 10)) (48 + n % 10) = _
    rw [znu_1 (by omega), znu_1 (by omega)]
    exact Prod.ext (by show 10 * (10 * 0 + (48 + n / 10) - 48) + (48 + n % 10) - 48 = n; omega) rfl
theorem znu_mt {t p : Int} {V : Int → Int} (hI : zIV t V) (ht : t ≤ 9999) (hp : 0 ≤ p ∧ p < V 2) : (zmt V p).foldl znu ((0 : Int), (0 : Int)) = (V (96 + 47 * p + 3), 1) := by
  obtain ⟨m0, m1, m2, m3, m4, m5, -⟩ := hI.2.2.2.2.2.2.1 p hp.1 hp.2
  have v3 := (hI.2.2.2.1 3 (by decide) (by decide)).2
  have v1 := hI.2.1.2
  have nd : ∀ (x : Int), 0 ≤ x → x < 10000 → ∀ c ∈ zdgs x, c ≠ 61 := fun x x0 x1 c hc => by have := zdgs_b x0 x1 c hc; omega
  have hA : ∀ c ∈ zdgs (V (96 + 47 * p + 0)) ++ [58] ++ zdgs (V (96 + 47 * p + 1)) ++ [62] ++ zdgs (V (96 + 47 * p + 2)), c ≠ 61 := by
    intro c hc
    simp only [List.mem_append, List.mem_cons, List.not_mem_nil, or_false] at hc
    rcases hc with (((hc | hc) | hc) | hc) | hc
    · exact nd _ m0.1 (by omega) c hc
    · omega
    · exact nd _ m1.1 (by omega) c hc
    · omega
    · exact nd _ m2.1 (by omega) c hc
  unfold zmt
  rw [List.foldl_append, List.foldl_append, List.foldl_append, List.foldl_append, znu_a _ hA]
  rw [show List.foldl znu ((0 : Int), (0 : Int)) [61] = (0, 1) from rfl, znu_d m3.1 (by omega), show List.foldl znu (V (96 + 47 * p + 3), 1) [V (96 + 47 * p + 4)] = (V (96 + 47 * p + 3), 1) from znu_z [V (96 + 47 * p + 4)] (fun c hc => by rw [List.mem_singleton] at hc; omega)]
  exact znu_z _ (fun c hc => by rw [List.mem_replicate] at hc; omega)
set_option maxHeartbeats 4000000 in
set_option maxRecDepth 100000 in
theorem lw_spells (l : Launch) (g : zG) (zX : va_W) (ad : Int → Nat) (M F : zMem) {t many : Int} {V : Int → Int} {U : Int → Int → Int} (hL : zLw t many V U M F) (q : Nat × Nat × List Int32) (hlt : zLt q.2.2) (x0 : Int) (hx0 : zR x0) (hx : x0 = (q.2.2.length : Int)) (hX : zTx M (q.2.2.map Int32.toInt)) (hst : l.stackTraces = false) : zMs l yL_spells cL_spells 5 (some .boolean) 10 17 102 g (0, 398, zX) ad [q] [.ref (ad 0), .int (zI x0), .ref q.1] M F (zPi (fun k M' F' => k = 1 ∧ zLw t many V U M' F')) := by
  refine zMs.of "DrumWarrenLaw" rfl (by decide +kernel) (Nat.le_of_ble_eq_true rfl) (fun {p e s m args below meth c ls} C0 Wd hl hret hlk hin hS0 => ?_)
  have hl : lv_has ls 5 [(0, .ref (ad 0)), (1, .int (zI x0)), (2, .ref q.1)] := hl
  have hS := hS0 q List.mem_cons_self
  have h16 : (q.2.2.length : Int) ≤ 16 := by have h1 := hL.ou.2.1; have h2 := hX.2.1; rw [List.length_map] at h2; omega
  refine z_iload_n C0 hl 1 rfl dL_spells_0 ?_
  refine z_aload_n C0 hl 2 rfl dL_spells_1 ?_
  refine z_invVs (As := []) (rest := [.int (zI x0)]) C0 Wd (ct_J0_length_8abf5_s l g (0, 398, zX) ad M F q hlt) kv_J0_length_8abf5 (hS1 (X := fun z => zStr z.1 z.2.1 z.2.2 _ _ _) hS) (zrecvO C0 Wd hS.1) zk_1334 rfl hl.1 rfl (Nat.le_of_ble_eq_true rfl) (by decide) ⟨by show _ ≤ 17; omega, by show _ ≤ 102; omega⟩ dL_spells_2 (z_kki (fun k1 M1 F1 H locs hr1 hp1 Wd => ?_))
  obtain ⟨rfl, rfl, rfl⟩ := hp1
  refine z_icmp_ne C0 (tgt := 12) hx0 hr1 dL_spells_5 (by decide) (fun h9 => (by exfalso; exact h9 hx)) (fun c2 => ?_)
  refine z_iconst C0 dL_spells_8 ?_
  refine z_goto C0 (tgt := 13) dL_spells_9 (by decide) ?_
  refine z_istore_n C0 hl [(3, .int (zI 1)), (0, .ref (ad 0)), (1, .int (zI x0)), (2, .ref q.1)] (by decide) rfl dL_spells_13 (fun ls hl => ?_)
  refine z_iconst C0 dL_spells_14 ?_
  refine z_istore C0 hl [(4, .int (zI 0)), (3, .int (zI 1)), (0, .ref (ad 0)), (1, .int (zI x0)), (2, .ref q.1)] (by decide) rfl dL_spells_15 (fun ls hl => ?_)
  have hb17 : (q.2.2.length : Int) ≤ 16 := by omega
  have aft17 : ∀ (k17 : Nat) (hk17 : (k17 : Int) ≤ (q.2.2.length : Int)) (M9017 F9017 : zMem) (hL9017 : zLw t many V U M9017 F9017) (hX17 : zTx M9017 (q.2.2.map Int32.toInt)) (hx17 : (k17 : Int) = (q.2.2.length : Int)) (H : Heap) (locs : List Loc) (ls : Array Slot) (Wd : zW g (zA (0, 398, zX) ad s.heap.size) s.heap (0, 398, zX) ad M9017 F9017 H locs) (hl : lv_has ls 5 [(0, .ref (ad 0)), (1, .int (zI x0)), (2, .ref q.1), (3, .int (zI 1)), (4, .int (zI (k17 : Int)))]), W p l e (zrm 10 17 102) s m args below meth c H locs (16) (96) (zMQ below g (0, 398, zX) ad (zPi (fun k M' F' => k = 1 ∧ zLw t many V U M' F')) args s 17 102) (F0 m 57 ls []) := by
    intro k17 hk17 M9017 F9017 hL9017 hX17 hx17 H locs ls Wd hl
    refine z_iload_n C0 hl 3 rfl dL_spells_57 ?_
    refine z_if_eq C0 (tgt := 75) (zR_mk (by decide) (by decide)) dL_spells_58 (by decide) (fun h => absurd h (by decide)) (fun _ => ?_)
    refine z_aload_n C0 hl 0 rfl dL_spells_61 ?_
    refine z_iload_n C0 hl 1 rfl dL_spells_62 ?_
    refine z_invSH (As := [.ref (ad 0), .int (zI x0)]) (rest := []) C0 Wd hst (hq_outputAt l g zX ad M9017 F9017 hL9017 x0 hx0 ) hs_outputAt zk_1271 rfl hl.1 rfl (Nat.le_of_ble_eq_true rfl) (by decide) ⟨by show _ ≤ 17; omega, by show _ ≤ 102; omega⟩ dL_spells_63 (fun k4 M4 F4 H locs hr4 hp4 Wd => ?_)
    obtain ⟨rfl, hQ4⟩ := hp4
    have hL4 := hQ4.1
    have hX4 := zTx_q hX17 hQ4.2.1 hQ4.2.2
    obtain ⟨he5, hr4⟩ : (if 0 ≤ x0 ∧ x0 < M9017 396 3 then M9017 397 x0 else -11) = (-11) ∧ zR (-11) := (fun q => ⟨q, q ▸ hr4⟩) (zTx_e hX17 (by rw [List.length_map]; exact hx))
    refine z_top (congrArg zI he5) ?_
    clear he5
    refine z_bipush C0 dL_spells_66 (by decide) ?_
    refine z_icmp_ne C0 (tgt := 75) (zR_mk (by decide) (by decide)) (zR_mk (by decide) (by decide)) dL_spells_68 (by decide) (fun h => absurd h (by decide)) (fun _ => ?_)
    refine z_iconst C0 dL_spells_71 ?_
    refine z_goto C0 (tgt := 76) dL_spells_72 (by decide) ?_
    refine W.widen (k := 17) (n := 102) (by omega) (by omega) ?_
    exact z_zret C0 Wd hret hlk (by first | exact Or.inl rfl | exact Or.inr rfl) ⟨rfl, hL4⟩ dL_spells_76
  have lp17 : ∀ (d17 k17 : Nat) (hk17 : (k17 : Int) + d17 = (q.2.2.length : Int)) (M9017 F9017 : zMem) (hL9017 : zLw t many V U M9017 F9017) (hX17 : zTx M9017 (q.2.2.map Int32.toInt)) (H : Heap) (locs : List Loc) (ls : Array Slot) (Wd : zW g (zA (0, 398, zX) ad s.heap.size) s.heap (0, 398, zX) ad M9017 F9017 H locs) (hl : lv_has ls 5 [(0, .ref (ad 0)), (1, .int (zI x0)), (2, .ref q.1), (3, .int (zI 1)), (4, .int (zI (k17 : Int)))]), W p l e (zrm 10 17 102) s m args below meth c H locs (1 * k17 + 0) (6 * k17 + 0) (zMQ below g (0, 398, zX) ad (zPi (fun k M' F' => k = 1 ∧ zLw t many V U M' F')) args s 17 102) (F0 m 17 ls []) := by
    intro d17
    induction d17 with
    | zero =>
      intro k17 hk17 M9017 F9017 hL9017 hX17 H locs ls Wd hl
      refine z_iload C0 hl 4 rfl dL_spells_17 ?_
      refine z_aload_n C0 hl 2 rfl dL_spells_19 ?_
      refine z_invVs (As := []) (rest := [.int (zI (k17 : Int))]) C0 Wd (ct_J0_length_8abf5_s l g (0, 398, zX) ad M9017 F9017 q hlt) kv_J0_length_8abf5 (hS1 (X := fun z => zStr z.1 z.2.1 z.2.2 _ _ _) hS) (zrecvO C0 Wd hS.1) zk_1334 rfl hl.1 rfl (Nat.le_of_ble_eq_true rfl) (by decide) ⟨by show _ ≤ 17; omega, by show _ ≤ 102; omega⟩ dL_spells_20 (z_kki (fun k7 M7 F7 H locs hr7 hp7 Wd => ?_))
      obtain ⟨rfl, rfl, rfl⟩ := hp7
      refine z_icmp_ge C0 (tgt := 57) (zR_mk (by omega) (by omega)) hr7 dL_spells_23 (by decide) (fun c8 => ?_) (fun c8 => ?_)
      · skip
        refine W.widen (k := (16)) (n := (96)) (by omega) (by omega) ?_
        exact aft17 k17 (by omega)  M9017 F9017 hL9017 (by first | assumption | omega) (by first | assumption | omega) _ _ _ Wd (lv_sub hl [0, 1, 2, 3, 4] rfl)
      · skip
        refine z_iload_n C0 hl 3 rfl dL_spells_26 ?_
        refine z_if_eq C0 (tgt := 57) (zR_mk (by decide) (by decide)) dL_spells_27 (by decide) (fun h => absurd h (by decide)) (fun _ => ?_)
        exfalso; omega
    | succ d17 ih17 =>
      intro k17 hk17 M9017 F9017 hL9017 hX17 H locs ls Wd hl
      refine z_iload C0 hl 4 rfl dL_spells_17 ?_
      refine z_aload_n C0 hl 2 rfl dL_spells_19 ?_
      refine z_invVs (As := []) (rest := [.int (zI (k17 : Int))]) C0 Wd (ct_J0_length_8abf5_s l g (0, 398, zX) ad M9017 F9017 q hlt) kv_J0_length_8abf5 (hS1 (X := fun z => zStr z.1 z.2.1 z.2.2 _ _ _) hS) (zrecvO C0 Wd hS.1) zk_1334 rfl hl.1 rfl (Nat.le_of_ble_eq_true rfl) (by decide) ⟨by show _ ≤ 17; omega, by show _ ≤ 102; omega⟩ dL_spells_20 (z_kki (fun k10 M10 F10 H locs hr10 hp10 Wd => ?_))
      obtain ⟨rfl, rfl, rfl⟩ := hp10
      refine z_icmp_ge C0 (tgt := 57) (zR_mk (by omega) (by omega)) hr10 dL_spells_23 (by decide) (fun c11 => ?_) (fun c11 => ?_)
      · skip
        exfalso; omega
      · skip
        refine z_iload_n C0 hl 3 rfl dL_spells_26 ?_
        refine z_if_eq C0 (tgt := 57) (zR_mk (by decide) (by decide)) dL_spells_27 (by decide) (fun h => absurd h (by decide)) (fun _ => ?_)
        refine z_aload_n C0 hl 0 rfl dL_spells_30 ?_
        refine z_iload C0 hl 4 rfl dL_spells_31 ?_
        refine z_invSH (As := [.ref (ad 0), .int (zI (k17 : Int))]) (rest := []) C0 Wd hst (hq_outputAt l g zX ad M9017 F9017 hL9017 (k17 : Int) (zR_mk (by omega) (by omega)) ) hs_outputAt zk_1271 rfl hl.1 rfl (Nat.le_of_ble_eq_true rfl) (by decide) ⟨by show _ ≤ 17; omega, by show _ ≤ 102; omega⟩ dL_spells_33 (fun k13 M13 F13 H locs hr13 hp13 Wd => ?_)
        obtain ⟨rfl, hQ13⟩ := hp13
        have hL13 := hQ13.1
        have hX13 := zTx_q hX17 hQ13.2.1 hQ13.2.2
        obtain ⟨he14, hr13⟩ : (if 0 ≤ (k17 : Int) ∧ (k17 : Int) < M9017 396 3 then M9017 397 (k17 : Int) else -11) = (zsx q.2.2 (k17 : Int)) ∧ zR (zsx q.2.2 (k17 : Int)) := (fun q => ⟨q, q ▸ hr13⟩) (zTx_s hX17 (by omega))
        refine z_top (congrArg zI he14) ?_
        clear he14
        refine z_aload_n C0 hl 2 rfl dL_spells_36 ?_
        refine z_iload C0 hl 4 rfl dL_spells_37 ?_
        refine z_invVs (As := [.int (zI (k17 : Int))]) (rest := [.int (zI (zsx q.2.2 (k17 : Int)))]) C0 Wd (ct_J0_charAt_5068e_s l g (0, 398, zX) ad M13 F13 q hlt (k17 : Int) (zR_mk (by omega) (by omega)) ⟨by omega, by omega⟩) kv_J0_charAt_5068e (hS1 (X := fun z => zStr z.1 z.2.1 z.2.2 _ _ _) hS) (zrecvO C0 Wd hS.1) zk_1335 rfl hl.1 rfl (Nat.le_of_ble_eq_true rfl) (by decide) ⟨by show _ ≤ 17; omega, by show _ ≤ 102; omega⟩ dL_spells_39 (z_kki (fun k15 M15 F15 H locs hr15 hp15 Wd => ?_))
        obtain ⟨rfl, rfl, rfl⟩ := hp15
        refine z_icmp_ne C0 (tgt := 49) hr13 hr15 dL_spells_42 (by decide) (fun h9 => (by exfalso; exact h9 rfl)) (fun c16 => ?_)
        refine z_iconst C0 dL_spells_45 ?_
        refine z_goto C0 (tgt := 50) dL_spells_46 (by decide) ?_
        refine z_istore_n C0 hl [(3, .int (zI 1)), (0, .ref (ad 0)), (1, .int (zI x0)), (2, .ref q.1), (4, .int (zI (k17 : Int)))] (by decide) rfl dL_spells_50 (fun ls hl => ?_)
        refine z_iinc C0 hl 4 (t := (k17 : Int)) (u := ((k17 : Int) + 1)) rfl (by omega) [(4, .int (zI ((k17 : Int) + 1))), (3, .int (zI 1)), (0, .ref (ad 0)), (1, .int (zI x0)), (2, .ref q.1)] (by decide) rfl dL_spells_51 (fun ls hl => ?_)
        refine z_goto C0 (tgt := 17) dL_spells_54 (by decide) ?_
        refine W.widen (k := (1 * (k17 + 1) + 0)) (n := (6 * (k17 + 1) + 0)) (by omega) (by omega) ?_
        exact ih17 (k17 + 1) (by omega)  M13 F13 hL13 hX13 _ _ _ Wd (lv_sub hl [2, 3, 4, 1, 0] rfl)
  refine W.widen (k := (1 * 0 + 0)) (n := (6 * 0 + 0)) (by omega) (by omega) ?_
  exact lp17 ((q.2.2.length : Int)).toNat 0 (by omega)  M F hL hX _ _ _ Wd (lv_sub hl [2, 3, 4, 1, 0] rfl)
set_option maxHeartbeats 4000000 in
set_option maxRecDepth 100000 in
theorem lw_numberOf (l : Launch) (g : zG) (zX : va_W) (ad : Int → Nat) (M F : zMem) {t many : Int} {V : Int → Int} {U : Int → Int → Int} (hL : zLw t many V U M F) (ht : t ≤ 9999) (pl : Int) (hp : 0 ≤ pl ∧ pl < V 2) (x0 : Int) (hx0 : zR x0) (hz : zpl x0 V = pl) (hst : l.stackTraces = false) : zMt l yL_numberOf cL_numberOf 7 (some .int) 12 17 102 g (0, 398, zX) ad [.ref (ad 0), .int (zI x0)] M F (zPi (fun k M' F' => k = V (96 + 47 * pl + 3) ∧ zLw t many V U M' F')) := by
  refine zMt.of "DrumWarrenLaw" rfl (by decide +kernel) (Nat.le_of_ble_eq_true rfl) (fun {p e s m args below meth c ls} C0 Wd hl hret hlk hin => ?_)
  have hl : lv_has ls 7 [(0, .ref (ad 0)), (1, .int (zI x0))] := hl
  have h16 := zmt_len hL.iv ht hp
  have hpa := hp.1
  have hpb := hp.2
  refine z_aload_n C0 hl 0 rfl dL_numberOf_0 ?_
  refine z_iload_n C0 hl 1 rfl dL_numberOf_1 ?_
  refine z_invSH (As := [.ref (ad 0), .int (zI x0)]) (rest := []) C0 Wd hst (hq_writeMessage l g zX ad M F hL x0 hx0 (by omega)) hs_writeMessage zk_987 rfl hl.1 rfl (Nat.le_of_ble_eq_true rfl) (by decide) ⟨by show _ ≤ 17; omega, by show _ ≤ 102; omega⟩ dL_numberOf_2 (fun k1 M1 F1 H locs hr1 hp1 Wd => ?_)
  obtain ⟨h81, rfl, hX1, hL1⟩ := hp1.resolve_right (fun q => absurd (hz.symm.trans q.1) (by omega))
  rw [hz] at hX1 hr1
  rw [hz]
  refine z_istore_n C0 hl [(2, .int (zI ((zmt V pl).length : Int))), (0, .ref (ad 0)), (1, .int (zI x0))] (by decide) rfl dL_numberOf_5 (fun ls hl => ?_)
  refine z_iconst C0 dL_numberOf_6 ?_
  refine z_istore_n C0 hl [(3, .int (zI 0)), (2, .int (zI ((zmt V pl).length : Int))), (0, .ref (ad 0)), (1, .int (zI x0))] (by decide) rfl dL_numberOf_7 (fun ls hl => ?_)
  refine z_iconst C0 dL_numberOf_8 ?_
  refine z_istore C0 hl [(4, .int (zI 0)), (3, .int (zI 0)), (2, .int (zI ((zmt V pl).length : Int))), (0, .ref (ad 0)), (1, .int (zI x0))] (by decide) rfl dL_numberOf_9 (fun ls hl => ?_)
  refine z_iconst C0 dL_numberOf_11 ?_
  refine z_istore C0 hl [(5, .int (zI 0)), (4, .int (zI 0)), (3, .int (zI 0)), (2, .int (zI ((zmt V pl).length : Int))), (0, .ref (ad 0)), (1, .int (zI x0))] (by decide) rfl dL_numberOf_12 (fun ls hl => ?_)
  have hb14 : ((zmt V pl).length : Int) ≤ 16 := by omega
  have aft14 : ∀ (k14 : Nat) (hk14 : (k14 : Int) ≤ ((zmt V pl).length : Int)) (nu : Int) (be : Int) (M9014 F9014 : zMem) (hL9014 : zLw t many V U M9014 F9014) (hX14 : zTx M9014 (zmt V pl)) (hbe : be = 0 ∨ be = 1) (hnb : (nu, be) = ((zmt V pl).take k14).foldl znu ((0 : Int), (0 : Int))) (hx14 : (k14 : Int) = ((zmt V pl).length : Int)) (H : Heap) (locs : List Loc) (ls : Array Slot) (Wd : zW g (zA (0, 398, zX) ad s.heap.size) s.heap (0, 398, zX) ad M9014 F9014 H locs) (hl : lv_has ls 7 [(0, .ref (ad 0)), (1, .int (zI x0)), (2, .int (zI ((zmt V pl).length : Int))), (3, .int (zI nu)), (4, .int (zI be)), (5, .int (zI (k14 : Int)))]), W p l e (zrm 12 17 102) s m args below meth c H locs (17) (102) (zMQ below g (0, 398, zX) ad (zPi (fun k M' F' => k = V (96 + 47 * pl + 3) ∧ zLw t many V U M' F')) args s 17 102) (F0 m 87 ls []) := by
    intro k14 hk14 nu be M9014 F9014 hL9014 hX14 hbe hnb hx14 H locs ls Wd hl
    have hr14 : nu = V (96 + 47 * pl + 3) := by
        rw [show k14 = (zmt V pl).length by omega, List.take_length, znu_mt hL9014.iv ht hp] at hnb
        exact congrArg Prod.fst hnb
    have hm14 := (hL9014.iv.2.2.2.2.2.2.1 pl hpa hpb).2.2.2.1
    replace hl : lv_has ls 7 [(0, .ref (ad 0)), (1, .int (zI x0)), (3, .int (zI nu))] := lv_sub hl [0, 1, 3] rfl
    refine z_iload_n C0 hl 2 rfl dL_numberOf_87 ?_
    refine W.widen (k := 17) (n := 102) (by omega) (by omega) ?_
    exact z_iret C0 Wd hret hlk (by rw [hr14]; exact zR_mk (by omega) (by omega)) ⟨hr14, hL9014⟩ dL_numberOf_88
  have lp14 : ∀ (d14 k14 : Nat) (hk14 : (k14 : Int) + d14 = ((zmt V pl).length : Int)) (nu : Int) (be : Int) (M9014 F9014 : zMem) (hL9014 : zLw t many V U M9014 F9014) (hX14 : zTx M9014 (zmt V pl)) (hbe : be = 0 ∨ be = 1) (hnb : (nu, be) = ((zmt V pl).take k14).foldl znu ((0 : Int), (0 : Int))) (H : Heap) (locs : List Loc) (ls : Array Slot) (Wd : zW g (zA (0, 398, zX) ad s.heap.size) s.heap (0, 398, zX) ad M9014 F9014 H locs) (hl : lv_has ls 7 [(0, .ref (ad 0)), (1, .int (zI x0)), (2, .int (zI ((zmt V pl).length : Int))), (3, .int (zI nu)), (4, .int (zI be)), (5, .int (zI (k14 : Int)))]), W p l e (zrm 12 17 102) s m args below meth c H locs (1 * k14 + 1) (6 * k14 + 6) (zMQ below g (0, 398, zX) ad (zPi (fun k M' F' => k = V (96 + 47 * pl + 3) ∧ zLw t many V U M' F')) args s 17 102) (F0 m 14 ls []) := by
    intro d14
    induction d14 with
    | zero =>
      intro k14 hk14 nu be M9014 F9014 hL9014 hX14 hbe hnb H locs ls Wd hl
      refine z_iload C0 hl 5 rfl dL_numberOf_14 ?_
      refine z_iload_n C0 hl 2 rfl dL_numberOf_16 ?_
      refine z_icmp_ge C0 (tgt := 87) (zR_mk (by omega) (by omega)) hr1 dL_numberOf_17 (by decide) (fun c2 => ?_) (fun c2 => ?_)
      · skip
        refine W.widen (k := (17)) (n := (102)) (by omega) (by omega) ?_
        exact aft14 k14 (by omega) nu be M9014 F9014 hL9014 (by first | assumption | omega) (by first | assumption | omega) (by first | assumption | omega) (by first | assumption | omega) _ _ _ Wd (lv_sub hl [0, 1, 2, 3, 4, 5] rfl)
      · skip
        exfalso; omega
    | succ d14 ih14 =>
      intro k14 hk14 nu be M9014 F9014 hL9014 hX14 hbe hnb H locs ls Wd hl
      refine z_iload C0 hl 5 rfl dL_numberOf_14 ?_
      refine z_iload_n C0 hl 2 rfl dL_numberOf_16 ?_
      refine z_icmp_ge C0 (tgt := 87) (zR_mk (by omega) (by omega)) hr1 dL_numberOf_17 (by decide) (fun c3 => ?_) (fun c3 => ?_)
      · skip
        exfalso; omega
      · skip
        refine z_aload_n C0 hl 0 rfl dL_numberOf_20 ?_
        refine z_iload C0 hl 5 rfl dL_numberOf_21 ?_
        refine z_invSH (As := [.ref (ad 0), .int (zI (k14 : Int))]) (rest := []) C0 Wd hst (hq_outputAt l g zX ad M9014 F9014 hL9014 (k14 : Int) (zR_mk (by omega) (by omega)) ) hs_outputAt zk_1271 rfl hl.1 rfl (Nat.le_of_ble_eq_true rfl) (by decide) ⟨by show _ ≤ 17; omega, by show _ ≤ 102; omega⟩ dL_numberOf_23 (fun k4 M4 F4 H locs hr4 hp4 Wd => ?_)
        obtain ⟨rfl, hQ4⟩ := hp4
        have hL4 := hQ4.1
        have hX4 := zTx_q hX14 hQ4.2.1 hQ4.2.2
        obtain ⟨he5, hr4⟩ : (if 0 ≤ (k14 : Int) ∧ (k14 : Int) < M9014 396 3 then M9014 397 (k14 : Int) else -11) = ((zmt V pl).getD k14 0) ∧ zR ((zmt V pl).getD k14 0) := (fun q => ⟨q, q ▸ hr4⟩) (zTx_g hX14 (by omega))
        refine z_top (congrArg zI he5) ?_
        clear he5
        refine z_istore C0 hl [(6, .int (zI ((zmt V pl).getD k14 0))), (0, .ref (ad 0)), (1, .int (zI x0)), (2, .int (zI ((zmt V pl).length : Int))), (3, .int (zI nu)), (4, .int (zI be)), (5, .int (zI (k14 : Int)))] (by decide) rfl dL_numberOf_26 (fun ls hl => ?_)
        have jn61 : ∀ (M8061 F8061 : zMem) (hL8061 : zLw t many V U M8061 F8061) (hXj61 : zTx M8061 (zmt V pl)) (H : Heap) (locs : List Loc) (ls : Array Slot) (Wd : zW g (zA (0, 398, zX) ad s.heap.size) s.heap (0, 398, zX) ad M8061 F8061 H locs) (hl : lv_has ls 7 [(0, .ref (ad 0)), (1, .int (zI x0)), (2, .int (zI ((zmt V pl).length : Int))), (3, .int (zI nu)), (4, .int (zI be)), (5, .int (zI (k14 : Int))), (6, .int (zI ((zmt V pl).getD k14 0)))]), W p l e (zrm 12 17 102) s m args below meth c H locs (1 * k14 + 2) (6 * k14 + 12) (zMQ below g (0, 398, zX) ad (zPi (fun k M' F' => k = V (96 + 47 * pl + 3) ∧ zLw t many V U M' F')) args s 17 102) (F0 m 61 ls [.int (zI (if ¬ be = 0 ∧ 48 ≤ ((zmt V pl).getD k14 0) ∧ ((zmt V pl).getD k14 0) ≤ 57 then 10 * nu + ((zmt V pl).getD k14 0) - 48 else nu))]) := by
          intro M8061 F8061 hL8061 hXj61 H locs ls Wd hl
          refine z_istore_n C0 hl [(3, .int (zI (if ¬ be = 0 ∧ 48 ≤ ((zmt V pl).getD k14 0) ∧ ((zmt V pl).getD k14 0) ≤ 57 then 10 * nu + ((zmt V pl).getD k14 0) - 48 else nu))), (0, .ref (ad 0)), (1, .int (zI x0)), (2, .int (zI ((zmt V pl).length : Int))), (4, .int (zI be)), (5, .int (zI (k14 : Int))), (6, .int (zI ((zmt V pl).getD k14 0)))] (by decide) rfl dL_numberOf_61 (fun ls hl => ?_)
          have jn79 : ∀ (M8079 F8079 : zMem) (hL8079 : zLw t many V U M8079 F8079) (hXj79 : zTx M8079 (zmt V pl)) (H : Heap) (locs : List Loc) (ls : Array Slot) (Wd : zW g (zA (0, 398, zX) ad s.heap.size) s.heap (0, 398, zX) ad M8079 F8079 H locs) (hl : lv_has ls 7 [(0, .ref (ad 0)), (1, .int (zI x0)), (2, .int (zI ((zmt V pl).length : Int))), (3, .int (zI (if ¬ be = 0 ∧ 48 ≤ ((zmt V pl).getD k14 0) ∧ ((zmt V pl).getD k14 0) ≤ 57 then 10 * nu + ((zmt V pl).getD k14 0) - 48 else nu))), (4, .int (zI be)), (5, .int (zI (k14 : Int))), (6, .int (zI ((zmt V pl).getD k14 0)))]), W p l e (zrm 12 17 102) s m args below meth c H locs (1 * k14 + 2) (6 * k14 + 12) (zMQ below g (0, 398, zX) ad (zPi (fun k M' F' => k = V (96 + 47 * pl + 3) ∧ zLw t many V U M' F')) args s 17 102) (F0 m 79 ls [.int (zI (if ¬ be = 0 ∨ ((zmt V pl).getD k14 0) = 61 then (1 : Int) else 0))]) := by
            intro M8079 F8079 hL8079 hXj79 H locs ls Wd hl
            refine z_istore C0 hl [(4, .int (zI (if ¬ be = 0 ∨ ((zmt V pl).getD k14 0) = 61 then (1 : Int) else 0))), (0, .ref (ad 0)), (1, .int (zI x0)), (2, .int (zI ((zmt V pl).length : Int))), (3, .int (zI (if ¬ be = 0 ∧ 48 ≤ ((zmt V pl).getD k14 0) ∧ ((zmt V pl).getD k14 0) ≤ 57 then 10 * nu + ((zmt V pl).getD k14 0) - 48 else nu))), (5, .int (zI (k14 : Int))), (6, .int (zI ((zmt V pl).getD k14 0)))] (by decide) rfl dL_numberOf_79 (fun ls hl => ?_)
            refine z_iinc C0 hl 5 (t := (k14 : Int)) (u := ((k14 : Int) + 1)) rfl (by omega) [(5, .int (zI ((k14 : Int) + 1))), (4, .int (zI (if ¬ be = 0 ∨ ((zmt V pl).getD k14 0) = 61 then (1 : Int) else 0))), (0, .ref (ad 0)), (1, .int (zI x0)), (2, .int (zI ((zmt V pl).length : Int))), (3, .int (zI (if ¬ be = 0 ∧ 48 ≤ ((zmt V pl).getD k14 0) ∧ ((zmt V pl).getD k14 0) ≤ 57 then 10 * nu + ((zmt V pl).getD k14 0) - 48 else nu))), (6, .int (zI ((zmt V pl).getD k14 0)))] (by decide) rfl dL_numberOf_81 (fun ls hl => ?_)
            refine z_goto C0 (tgt := 14) dL_numberOf_84 (by decide) ?_
            refine W.widen (k := (1 * (k14 + 1) + 1)) (n := (6 * (k14 + 1) + 6)) (by omega) (by omega) ?_
            exact ih14 (k14 + 1) (by omega) (if ¬ be = 0 ∧ 48 ≤ ((zmt V pl).getD k14 0) ∧ ((zmt V pl).getD k14 0) ≤ 57 then 10 * nu + ((zmt V pl).getD k14 0) - 48 else nu) (if ¬ be = 0 ∨ ((zmt V pl).getD k14 0) = 61 then (1 : Int) else 0) M8079 F8079 hL8079 hXj79 (by split; exact Or.inr rfl; exact Or.inl rfl) (znu_step (by omega) hnb) _ _ _ Wd (lv_sub hl [2, 3, 4, 5, 1, 0] rfl)
          refine z_iload C0 hl 4 rfl dL_numberOf_62 ?_
          refine z_if_ne C0 (tgt := 74) (zR_mk (by omega) (by omega)) dL_numberOf_64 (by decide) (fun c6 => ?_) (fun c6 => ?_)
          · skip
            refine z_iconst C0 dL_numberOf_74 ?_
            refine z_goto C0 (tgt := 79) dL_numberOf_75 (by decide) ?_
            refine z_top (congrArg zI (show 1 = (if ¬ be = 0 ∨ ((zmt V pl).getD k14 0) = 61 then (1 : Int) else 0) from (by first | exact (if_pos (by omega)).symm | exact (if_neg (by omega)).symm))) ?_
            refine W.widen (k := (1 * k14 + 2)) (n := (6 * k14 + 12)) (by omega) (by omega) ?_
            exact jn79  M8061 F8061 hL8061 hXj61 _ _ _ Wd (lv_sub hl [1, 2, 3, 0, 4, 5, 6] rfl)
          · skip
            refine z_iload C0 hl 6 rfl dL_numberOf_67 ?_
            refine z_bipush C0 dL_numberOf_69 (by decide) ?_
            refine z_icmp_ne C0 (tgt := 78) hr4 (zR_mk (by decide) (by decide)) dL_numberOf_71 (by decide) (fun c7 => ?_) (fun c7 => ?_)
            · skip
              refine z_iconst C0 dL_numberOf_78 ?_
              refine z_top (congrArg zI (show 0 = (if ¬ be = 0 ∨ ((zmt V pl).getD k14 0) = 61 then (1 : Int) else 0) from (by first | exact (if_pos (by omega)).symm | exact (if_neg (by omega)).symm))) ?_
              refine W.widen (k := (1 * k14 + 2)) (n := (6 * k14 + 12)) (by omega) (by omega) ?_
              exact jn79  M8061 F8061 hL8061 hXj61 _ _ _ Wd (lv_sub hl [1, 2, 3, 0, 4, 5, 6] rfl)
            · skip
              refine z_iconst C0 dL_numberOf_74 ?_
              refine z_goto C0 (tgt := 79) dL_numberOf_75 (by decide) ?_
              refine z_top (congrArg zI (show 1 = (if ¬ be = 0 ∨ ((zmt V pl).getD k14 0) = 61 then (1 : Int) else 0) from (by first | exact (if_pos (by omega)).symm | exact (if_neg (by omega)).symm))) ?_
              refine W.widen (k := (1 * k14 + 2)) (n := (6 * k14 + 12)) (by omega) (by omega) ?_
              exact jn79  M8061 F8061 hL8061 hXj61 _ _ _ Wd (lv_sub hl [1, 2, 3, 0, 4, 5, 6] rfl)
        refine z_iload C0 hl 5 rfl dL_numberOf_28 ?_
        refine z_if_eq C0 (tgt := 60) (zR_mk (by omega) (by omega)) dL_numberOf_30 (by decide) (fun c8 => ?_) (fun c8 => ?_)
        · skip
          refine z_iload_n C0 hl 4 rfl dL_numberOf_60 ?_
          refine z_top (congrArg zI (show nu = (if ¬ be = 0 ∧ 48 ≤ ((zmt V pl).getD k14 0) ∧ ((zmt V pl).getD k14 0) ≤ 57 then 10 * nu + ((zmt V pl).getD k14 0) - 48 else nu) from (by first | exact (if_pos (by omega)).symm | exact (if_neg (by omega)).symm))) ?_
          refine W.widen (k := (1 * k14 + 2)) (n := (6 * k14 + 12)) (by omega) (by omega) ?_
          exact jn61  M4 F4 hL4 hX4 _ _ _ Wd (lv_sub hl [1, 2, 3, 4, 5, 6, 0] rfl)
        · skip
          refine z_iload C0 hl 0 rfl dL_numberOf_33 ?_
          refine z_bipush C0 dL_numberOf_35 (by decide) ?_
          refine z_icmp_lt C0 (tgt := 60) hr4 (zR_mk (by decide) (by decide)) dL_numberOf_37 (by decide) (fun c9 => ?_) (fun c9 => ?_)
          · skip
            refine z_iload_n C0 hl 4 rfl dL_numberOf_60 ?_
            refine z_top (congrArg zI (show nu = (if ¬ be = 0 ∧ 48 ≤ ((zmt V pl).getD k14 0) ∧ ((zmt V pl).getD k14 0) ≤ 57 then 10 * nu + ((zmt V pl).getD k14 0) - 48 else nu) from (by first | exact (if_pos (by omega)).symm | exact (if_neg (by omega)).symm))) ?_
            refine W.widen (k := (1 * k14 + 2)) (n := (6 * k14 + 12)) (by omega) (by omega) ?_
            exact jn61  M4 F4 hL4 hX4 _ _ _ Wd (lv_sub hl [1, 2, 3, 4, 5, 6, 0] rfl)
          · skip
            refine z_iload C0 hl 0 rfl dL_numberOf_40 ?_
            refine z_bipush C0 dL_numberOf_42 (by decide) ?_
            refine z_icmp_gt C0 (tgt := 60) hr4 (zR_mk (by decide) (by decide)) dL_numberOf_44 (by decide) (fun c10 => ?_) (fun c10 => ?_)
            · skip
              refine z_iload_n C0 hl 4 rfl dL_numberOf_60 ?_
              refine z_top (congrArg zI (show nu = (if ¬ be = 0 ∧ 48 ≤ ((zmt V pl).getD k14 0) ∧ ((zmt V pl).getD k14 0) ≤ 57 then 10 * nu + ((zmt V pl).getD k14 0) - 48 else nu) from (by first | exact (if_pos (by omega)).symm | exact (if_neg (by omega)).symm))) ?_
              refine W.widen (k := (1 * k14 + 2)) (n := (6 * k14 + 12)) (by omega) (by omega) ?_
              exact jn61  M4 F4 hL4 hX4 _ _ _ Wd (lv_sub hl [1, 2, 3, 4, 5, 6, 0] rfl)
            · skip
              refine z_bipush C0 dL_numberOf_47 (by decide) ?_
              refine z_iload_n C0 hl 4 rfl dL_numberOf_49 ?_
              refine z_imul C0 dL_numberOf_50 ?_
              refine z_iload C0 hl 0 rfl dL_numberOf_51 ?_
              refine z_iadd C0 dL_numberOf_53 ?_
              refine z_bipush C0 dL_numberOf_54 (by decide) ?_
              refine z_isub C0 dL_numberOf_56 ?_
              refine z_goto C0 (tgt := 61) dL_numberOf_57 (by decide) ?_
              refine z_top (congrArg zI (show (((10 * nu) + ((zmt V pl).getD k14 0)) - 48) = (if ¬ be = 0 ∧ 48 ≤ ((zmt V pl).getD k14 0) ∧ ((zmt V pl).getD k14 0) ≤ 57 then 10 * nu + ((zmt V pl).getD k14 0) - 48 else nu) from (by first | exact (if_pos (by omega)).symm | exact (if_neg (by omega)).symm))) ?_
              refine W.widen (k := (1 * k14 + 2)) (n := (6 * k14 + 12)) (by omega) (by omega) ?_
              exact jn61  M4 F4 hL4 hX4 _ _ _ Wd (lv_sub hl [1, 2, 3, 4, 5, 6, 0] rfl)
  refine W.widen (k := (1 * 0 + 1)) (n := (6 * 0 + 6)) (by omega) (by omega) ?_
  exact lp14 (((zmt V pl).length : Int)).toNat 0 (by omega) 0 0 M1 F1 hL1 hX1 (Or.inl rfl) rfl _ _ _ Wd (lv_sub hl [4, 5, 3, 2, 1, 0] rfl)
set_option maxHeartbeats 4000000 in
set_option maxRecDepth 100000 in
theorem lw_execute (l : Launch) (g : zG) (zX : va_W) (ad : Int → Nat) (M F : zMem) {t many : Int} {V : Int → Int} {U : Int → Int → Int} (hL : zLw t many V U M F) (q : Nat × Nat × List Int32) (hlt : zLt q.2.2) (h31 : (q.2.2.length : Int) ≤ 33) (ht : t ≤ 50000000) (hst : l.stackTraces = false) : zMs l yL_execute cL_execute 3 (some .int) 14 34 204 g (0, 398, zX) ad [q] [.ref (ad 0), .ref q.1] M F (zPi (fun k M' F' => (0 ≤ k ∧ ∃ W : Int → Int, zLw (t + 7000) (zm8 many) W (zcons V U) M' F') ∨ (k < 0 ∧ zLw t many V U M' F'))) := by
  refine zMs.of "DrumWarrenLaw" rfl (by decide +kernel) (Nat.le_of_ble_eq_true rfl) (fun {p e s m args below meth c ls} C0 Wd hl hret hlk hin hS0 => ?_)
  have hl : lv_has ls 3 [(0, .ref (ad 0)), (1, .ref q.1)] := hl
  have hS := hS0 q List.mem_cons_self
  refine z_iconst C0 dL_execute_0 ?_
  refine z_istore_n C0 hl [(2, .int (zI 0)), (0, .ref (ad 0)), (1, .ref q.1)] (by decide) rfl dL_execute_1 (fun ls hl => ?_)
  have hb2 : (q.2.2.length : Int) ≤ 33 := by omega
  have aft2 : ∀ (k2 : Nat) (hk2 : (k2 : Int) ≤ (q.2.2.length : Int)) (M9002 F9002 : zMem) (hL9002 : zLw t many V U M9002 F9002) (hx2 : (k2 : Int) = (q.2.2.length : Int)) (H : Heap) (locs : List Loc) (ls : Array Slot) (Wd : zW g (zA (0, 398, zX) ad s.heap.size) s.heap (0, 398, zX) ad M9002 F9002 H locs) (hl : lv_has ls 3 [(0, .ref (ad 0)), (1, .ref q.1), (2, .int (zI (k2 : Int)))]), W p l e (zrm 14 34 204) s m args below meth c H locs (33) (198) (zMQ below g (0, 398, zX) ad (zPi (fun k M' F' => (0 ≤ k ∧ ∃ W : Int → Int, zLw (t + 7000) (zm8 many) W (zcons V U) M' F') ∨ (k < 0 ∧ zLw t many V U M' F'))) args s 34 204) (F0 m 34 ls []) := by
    intro k2 hk2 M9002 F9002 hL9002 hx2 H locs ls Wd hl
    refine z_aload_n C0 hl 0 rfl dL_execute_34 ?_
    refine z_invSH (As := [.ref (ad 0)]) (rest := []) C0 Wd hst (hq_executes l g zX ad M9002 F9002 hL9002  (by omega)) hs_executes zk_1541 rfl hl.1 rfl (Nat.le_of_ble_eq_true rfl) (by decide) ⟨by show _ ≤ 34; omega, by show _ ≤ 204; omega⟩ dL_execute_35 (fun k1 M1 F1 H locs hr1 hp1 Wd => ?_)
    refine W.widen (k := 34) (n := 204) (by omega) (by omega) ?_
    exact z_iret C0 Wd hret hlk hr1 hp1 dL_execute_38
  have lp2 : ∀ (d2 k2 : Nat) (hk2 : (k2 : Int) + d2 = (q.2.2.length : Int)) (M9002 F9002 : zMem) (hL9002 : zLw t many V U M9002 F9002) (H : Heap) (locs : List Loc) (ls : Array Slot) (Wd : zW g (zA (0, 398, zX) ad s.heap.size) s.heap (0, 398, zX) ad M9002 F9002 H locs) (hl : lv_has ls 3 [(0, .ref (ad 0)), (1, .ref q.1), (2, .int (zI (k2 : Int)))]), W p l e (zrm 14 34 204) s m args below meth c H locs (1 * k2 + 0) (6 * k2 + 0) (zMQ below g (0, 398, zX) ad (zPi (fun k M' F' => (0 ≤ k ∧ ∃ W : Int → Int, zLw (t + 7000) (zm8 many) W (zcons V U) M' F') ∨ (k < 0 ∧ zLw t many V U M' F'))) args s 34 204) (F0 m 2 ls []) := by
    intro d2
    induction d2 with
    | zero =>
      intro k2 hk2 M9002 F9002 hL9002 H locs ls Wd hl
      refine z_iload_n C0 hl 2 rfl dL_execute_2 ?_
      refine z_aload_n C0 hl 1 rfl dL_execute_3 ?_
      refine z_invVs (As := []) (rest := [.int (zI (k2 : Int))]) C0 Wd (ct_J0_length_8abf5_s l g (0, 398, zX) ad M9002 F9002 q hlt) kv_J0_length_8abf5 (hS1 (X := fun z => zStr z.1 z.2.1 z.2.2 _ _ _) hS) (zrecvO C0 Wd hS.1) zk_1334 rfl hl.1 rfl (Nat.le_of_ble_eq_true rfl) (by decide) ⟨by show _ ≤ 34; omega, by show _ ≤ 204; omega⟩ dL_execute_4 (z_kki (fun k2 M2 F2 H locs hr2 hp2 Wd => ?_))
      obtain ⟨rfl, rfl, rfl⟩ := hp2
      refine z_icmp_ge C0 (tgt := 34) (zR_mk (by omega) (by omega)) hr2 dL_execute_7 (by decide) (fun c3 => ?_) (fun c3 => ?_)
      · skip
        refine W.widen (k := (33)) (n := (198)) (by omega) (by omega) ?_
        exact aft2 k2 (by omega)  M9002 F9002 hL9002  (by first | assumption | omega) _ _ _ Wd (lv_sub hl [0, 1, 2] rfl)
      · skip
        exfalso; omega
    | succ d2 ih2 =>
      intro k2 hk2 M9002 F9002 hL9002 H locs ls Wd hl
      refine z_iload_n C0 hl 2 rfl dL_execute_2 ?_
      refine z_aload_n C0 hl 1 rfl dL_execute_3 ?_
      refine z_invVs (As := []) (rest := [.int (zI (k2 : Int))]) C0 Wd (ct_J0_length_8abf5_s l g (0, 398, zX) ad M9002 F9002 q hlt) kv_J0_length_8abf5 (hS1 (X := fun z => zStr z.1 z.2.1 z.2.2 _ _ _) hS) (zrecvO C0 Wd hS.1) zk_1334 rfl hl.1 rfl (Nat.le_of_ble_eq_true rfl) (by decide) ⟨by show _ ≤ 34; omega, by show _ ≤ 204; omega⟩ dL_execute_4 (z_kki (fun k4 M4 F4 H locs hr4 hp4 Wd => ?_))
      obtain ⟨rfl, rfl, rfl⟩ := hp4
      refine z_icmp_ge C0 (tgt := 34) (zR_mk (by omega) (by omega)) hr4 dL_execute_7 (by decide) (fun c5 => ?_) (fun c5 => ?_)
      · skip
        exfalso; omega
      · skip
        refine z_aload_n C0 hl 0 rfl dL_execute_10 ?_
        refine z_aload_n C0 hl 1 rfl dL_execute_11 ?_
        refine z_iload_n C0 hl 2 rfl dL_execute_12 ?_
        refine z_invVs (As := [.int (zI (k2 : Int))]) (rest := [.ref (ad 0)]) C0 Wd (ct_J0_charAt_5068e_s l g (0, 398, zX) ad M9002 F9002 q hlt (k2 : Int) (zR_mk (by omega) (by omega)) ⟨by omega, by omega⟩) kv_J0_charAt_5068e (hS1 (X := fun z => zStr z.1 z.2.1 z.2.2 _ _ _) hS) (zrecvO C0 Wd hS.1) zk_1335 rfl hl.1 rfl (Nat.le_of_ble_eq_true rfl) (by decide) ⟨by show _ ≤ 34; omega, by show _ ≤ 204; omega⟩ dL_execute_13 (z_kki (fun k6 M6 F6 H locs hr6 hp6 Wd => ?_))
        obtain ⟨rfl, rfl, rfl⟩ := hp6
        refine z_invSH (As := [.ref (ad 0), .int (zI (zsx q.2.2 (k2 : Int)))]) (rest := []) C0 Wd hst (hq_feed l g zX ad M9002 F9002 hL9002 (zsx q.2.2 (k2 : Int)) hr6 ⟨by have := zsx_b hlt (k2 : Int); omega, by have := zsx_b hlt (k2 : Int); omega⟩) hs_feed zk_1529 rfl hl.1 rfl (Nat.le_of_ble_eq_true rfl) (by decide) ⟨by show _ ≤ 34; omega, by show _ ≤ 204; omega⟩ dL_execute_16 (fun k7 M7 F7 H locs hr7 hp7 Wd => ?_)
        have hL7 := hp7
        refine z_iload_n C0 hl 2 rfl dL_execute_19 ?_
        refine z_iconst C0 dL_execute_20 ?_
        refine z_iadd C0 dL_execute_21 ?_
        refine z_icmp_eq C0 (tgt := 28) hr7 (zR_mk (by omega) (by omega)) dL_execute_22 (by decide) (fun c8 => ?_) (fun c8 => ?_)
        · skip
          refine z_iinc C0 hl 2 (t := (k2 : Int)) (u := ((k2 : Int) + 1)) rfl (by omega) [(2, .int (zI ((k2 : Int) + 1))), (0, .ref (ad 0)), (1, .ref q.1)] (by decide) rfl dL_execute_28 (fun ls hl => ?_)
          refine z_goto C0 (tgt := 2) dL_execute_31 (by decide) ?_
          refine W.widen (k := (1 * (k2 + 1) + 0)) (n := (6 * (k2 + 1) + 0)) (by omega) (by omega) ?_
          exact ih2 (k2 + 1) (by omega)  M7 F7 hL7  _ _ _ Wd (lv_sub hl [1, 2, 0] rfl)
        · skip
          refine z_bipush C0 dL_execute_25 (by decide) ?_
          refine W.widen (k := 34) (n := 204) (by omega) (by omega) ?_
          exact z_iret C0 Wd hret hlk (zR_mk (by decide) (by decide)) (Or.inr ⟨by decide, hL7⟩) dL_execute_27
  refine W.widen (k := (1 * 0 + 0)) (n := (6 * 0 + 0)) (by omega) (by omega) ?_
  exact lp2 ((q.2.2.length : Int)).toNat 0 (by omega)  M F hL  _ _ _ Wd (lv_sub hl [1, 2, 0] rfl)
