/-! the nearest way, as the law looks for it -/
theorem zne_R {V : Int → Int} {b : Int} (m : Nat) (a : Int) : zR (zne V b m a) := by
  have := zne_bd (V := V) (b := b) m a
  exact zR_mk (by omega) (by omega)
theorem zne_stop {V : Int → Int} {a c bs : Int} {f : Int → Int} {k : Nat} (hk : (k : Int) ≤ V 0) (hbs : bs = zfold (zne1 V a f) k c) (h : (k : Int) = V 0 ∨ ¬ 0 < bs) : bs = zfold (zne1 V a f) (V 0).toNat c := by
  rcases h with h | h
  · rw [show (V 0).toNat = k by omega]
    exact hbs
  · rw [hbs] at h ⊢
    have := zne_f_0 h ((V 0).toNat - k)
    rw [show k + ((V 0).toNat - k) = (V 0).toNat by omega] at this
    exact this.symm
theorem zne_st0 {t many : Int} {V : Int → Int} {U : Int → Int → Int} {M F : zMem} (hL : zLw t many V U M F) {a c bs : Int} {f : Int → Int} {k : Nat} (h : zisC V a ∧ zisC V k) (hd : ¬ 0 < qDl V a k) (hbs : bs = zfold (zne1 V a f) k c) : bs = zfold (zne1 V a f) (k + 1) c := by
  have h8 := hL.v0
  have h1 := h.1.1
  have h2 := h.1.2
  have h4 := h.2.2
  have hz := (hL.tT (8 + 8 * a + k) (by omega) (by omega)).1
  have hq := qDl_in h
  show bs = zne1 V a f k (zfold (zne1 V a f) k c)
  rw [← hbs]
  unfold zne1
  rw [if_neg (fun q => ?_)]
  rw [if_neg (by omega)] at hq
  omega
theorem zne_st1 {V : Int → Int} {a c bs w : Int} {f : Int → Int} {k : Nat} (h : zisC V a ∧ zisC V k) (hd : 0 < qDl V a k) (hb : 0 < bs) (hbs : bs = zfold (zne1 V a f) k c) (hw : w = if bs ≤ qDl V a k + f k then bs else qDl V a k + f k) : w = zfold (zne1 V a f) (k + 1) c := by
  have hq := qDl_in h
  show w = zne1 V a f k (zfold (zne1 V a f) k c)
  rw [← hbs]
  by_cases e : V (8 + 8 * a + k) = 0
  · rw [if_pos e] at hq; omega
  · rw [if_neg e] at hq
    unfold zne1
    rw [hw, hq, if_pos (show 0 < bs ∧ 0 < V (8 + 8 * a + k) from ⟨hb, by omega⟩)]
theorem qDl_9 {t many : Int} {V : Int → Int} {U : Int → Int → Int} {M F : zMem} (hL : zLw t many V U M F) {a b : Int} (h : zisC V a ∧ zisC V b) : -13 ≤ qDl V a b ∧ qDl V a b ≤ 9 := by
  have h8 := hL.v0
  have h1 := h.1.1
  have h2 := h.1.2
  have h3 := h.2.1
  have h4 := h.2.2
  have hz := hL.tT (8 + 8 * a + b) (by omega) (by omega)
  rw [qDl_in h]
  split <;> omega
section ZTF
variable {g : zG} {A : Nat → Prop} {p : Program} {l : Launch} {e : Env} {R : Room} {s : State} {m : MethodId} {args : Array Value} {below : List Frame} {meth : Method} {c : Code} {H : Heap} {locs : List Loc} {cells slots : Nat} {Q : State → Prop} {pc : Nat} {ls : Array Slot} {rest : List Value}
theorem z_topF {x y : UInt32} (h : x = y) (k : W p l e R s m args below meth c H locs cells slots Q (F0 m pc ls (.float y :: rest))) : W p l e R s m args below meth c H locs cells slots Q (F0 m pc ls (.float x :: rest)) := by rw [h]; exact k
theorem z_topD {x y : UInt64} (h : x = y) (k : W p l e R s m args below meth c H locs cells slots Q (F0 m pc ls (.double y :: rest))) : W p l e R s m args below meth c H locs cells slots Q (F0 m pc ls (.double x :: rest)) := by rw [h]; exact k
theorem z_topL {x y : Int64} (h : x = y) (k : W p l e R s m args below meth c H locs cells slots Q (F0 m pc ls (.long y :: rest))) : W p l e R s m args below meth c H locs cells slots Q (F0 m pc ls (.long x :: rest)) := by rw [h]; exact k
end ZTF
set_option maxHeartbeats 4000000 in
set_option maxRecDepth 100000 in
theorem lw_nearest_0 (l : Launch) (g : zG) (zX : va_W) (ad : Int → Nat) (M F : zMem) {t many : Int} {V : Int → Int} {U : Int → Int → Int} (hL : zLw t many V U M F) (h5 : V 0 ≤ 5) (x0 : Int) (hx0 : zR x0) (x1 : Int) (hx1 : zR x1) (h0 : zisC V x0) (h1 : zisC V x1) (hst : l.stackTraces = false) : zMt l yL_nearest cL_nearest 7 (some .int) 10 0 0 g (0, 398, zX) ad [.ref (ad 0), .int (zI x0), .int (zI x1), .int (zI 0)] M F (zPi (fun k M' F' => k = zne V x1 0 x0 ∧ zLw t many V U M' F')) := by
  refine zMt.of "DrumWarrenLaw" rfl (by decide +kernel) (Nat.le_of_ble_eq_true rfl) (fun {p e s m args below meth c ls} C0 Wd hl hret hlk hin => ?_)
  have hl : lv_has ls 7 [(0, .ref (ad 0)), (1, .int (zI x0)), (2, .int (zI x1)), (3, .int (zI 0))] := hl
  have hv0 := hL.v0
  have h00 := h0.1
  have h01 := h0.2
  have h10 := h1.1
  have h11 := h1.2
  have jn12 : ∀ (M8012 F8012 : zMem) (hL8012 : zLw t many V U M8012 F8012) (H : Heap) (locs : List Loc) (ls : Array Slot) (Wd : zW g (zA (0, 398, zX) ad s.heap.size) s.heap (0, 398, zX) ad M8012 F8012 H locs) (hl : lv_has ls 7 [(0, .ref (ad 0)), (1, .int (zI x0)), (2, .int (zI x1)), (3, .int (zI 0))]), W p l e (zrm 10 0 0) s m args below meth c H locs (0) (0) (zMQ below g (0, 398, zX) ad (zPi (fun k M' F' => k = zne V x1 0 x0 ∧ zLw t many V U M' F')) args s 0 0) (F0 m 12 ls [.int (zI (zne V x1 0 x0))]) := by
    intro M8012 F8012 hL8012 H locs ls Wd hl
    refine z_istore C0 hl [(4, .int (zI (zne V x1 0 x0))), (0, .ref (ad 0)), (1, .int (zI x0)), (2, .int (zI x1)), (3, .int (zI 0))] (by decide) rfl dL_nearest_12 (fun ls hl => ?_)
    refine z_iconst C0 dL_nearest_14 ?_
    refine z_istore C0 hl [(5, .int (zI 0)), (4, .int (zI (zne V x1 0 x0))), (0, .ref (ad 0)), (1, .int (zI x0)), (2, .int (zI x1)), (3, .int (zI 0))] (by decide) rfl dL_nearest_15 (fun ls hl => ?_)
    have hb17 : V 0 ≤ 5 := by omega
    have aft17 : ∀ (k17 : Nat) (hk17 : (k17 : Int) ≤ V 0) (bs : Int) (M9017 F9017 : zMem) (hL9017 : zLw t many V U M9017 F9017) (hb1 : 0 ≤ bs ∧ bs ≤ 999) (hb17 : bs = zne V x1 0 x0) (hx17 : bs = zne V x1 0 x0) (H : Heap) (locs : List Loc) (ls : Array Slot) (Wd : zW g (zA (0, 398, zX) ad s.heap.size) s.heap (0, 398, zX) ad M9017 F9017 H locs) (hl : lv_has ls 7 [(0, .ref (ad 0)), (1, .int (zI x0)), (2, .int (zI x1)), (3, .int (zI 0)), (4, .int (zI bs)), (5, .int (zI (k17 : Int)))]), W p l e (zrm 10 0 0) s m args below meth c H locs (0) (0) (zMQ below g (0, 398, zX) ad (zPi (fun k M' F' => k = zne V x1 0 x0 ∧ zLw t many V U M' F')) args s 0 0) (F0 m 75 ls []) := by
      intro k17 hk17 bs M9017 F9017 hL9017 hb1 hb17 hx17 H locs ls Wd hl
      refine z_iload C0 hl 4 rfl dL_nearest_75 ?_
      refine W.widen (k := 0) (n := 0) (by omega) (by omega) ?_
      exact z_iret C0 Wd hret hlk (zR_mk (by omega) (by omega)) ⟨hx17, hL9017⟩ dL_nearest_77
    have lp17 : ∀ (d17 k17 : Nat) (hk17 : (k17 : Int) + d17 = V 0) (bs : Int) (M9017 F9017 : zMem) (hL9017 : zLw t many V U M9017 F9017) (hb1 : 0 ≤ bs ∧ bs ≤ 999) (hb17 : bs = zne V x1 0 x0) (H : Heap) (locs : List Loc) (ls : Array Slot) (Wd : zW g (zA (0, 398, zX) ad s.heap.size) s.heap (0, 398, zX) ad M9017 F9017 H locs) (hl : lv_has ls 7 [(0, .ref (ad 0)), (1, .int (zI x0)), (2, .int (zI x1)), (3, .int (zI 0)), (4, .int (zI bs)), (5, .int (zI (k17 : Int)))]), W p l e (zrm 10 0 0) s m args below meth c H locs (0 * k17 + 0) (0 * k17 + 0) (zMQ below g (0, 398, zX) ad (zPi (fun k M' F' => k = zne V x1 0 x0 ∧ zLw t many V U M' F')) args s 0 0) (F0 m 17 ls []) := by
      intro d17
      induction d17 with
      | zero =>
        intro k17 hk17 bs M9017 F9017 hL9017 hb1 hb17 H locs ls Wd hl
        refine z_iload C0 hl 5 rfl dL_nearest_17 ?_
        refine z_aload_n C0 hl 0 rfl dL_nearest_19 ?_
        refine z_invVi (As := []) (rest := [.int (zI (k17 : Int))]) C0 Wd (hv_chamberCount l g zX ad M9017 F9017 hL9017) kv_X11_chamberCount zN0 (zE_8 zK0) rfl zk_773 rfl hl.1 rfl (Nat.le_of_ble_eq_true rfl) (by decide) ⟨by show _ ≤ 0; omega, by show _ ≤ 0; omega⟩ dL_nearest_20 (fun k1 M1 F1 H locs hr1 hp1 Wd => ?_)
        obtain ⟨rfl, hQ1⟩ := hp1
        have hL1 := hQ1.1
        refine z_icmp_ge C0 (tgt := 75) (zR_mk (by omega) (by omega)) hr1 dL_nearest_23 (by decide) (fun c2 => ?_) (fun c2 => ?_)
        · skip
          refine W.widen (k := (0)) (n := (0)) (by omega) (by omega) ?_
          exact aft17 k17 (by omega) bs M1 F1 hL1 (by first | assumption | omega) (by first | assumption | omega) hb17 _ _ _ Wd (lv_sub hl [0, 1, 2, 3, 4, 5] rfl)
        · skip
          refine z_iload_n C0 hl 3 rfl dL_nearest_26 ?_
          refine z_if_le C0 (tgt := 75) (zR_mk (by decide) (by decide)) dL_nearest_27 (by decide) (fun c3 => ?_) (fun h9 => (by exfalso; omega))
          refine W.widen (k := (0)) (n := (0)) (by omega) (by omega) ?_
          exact aft17 k17 (by omega) bs M1 F1 hL1 (by first | assumption | omega) (by first | assumption | omega) hb17 _ _ _ Wd (lv_sub hl [0, 1, 2, 3, 4, 5] rfl)
      | succ d17 ih17 =>
        intro k17 hk17 bs M9017 F9017 hL9017 hb1 hb17 H locs ls Wd hl
        refine z_iload C0 hl 5 rfl dL_nearest_17 ?_
        refine z_aload_n C0 hl 0 rfl dL_nearest_19 ?_
        refine z_invVi (As := []) (rest := [.int (zI (k17 : Int))]) C0 Wd (hv_chamberCount l g zX ad M9017 F9017 hL9017) kv_X11_chamberCount zN0 (zE_8 zK0) rfl zk_773 rfl hl.1 rfl (Nat.le_of_ble_eq_true rfl) (by decide) ⟨by show _ ≤ 0; omega, by show _ ≤ 0; omega⟩ dL_nearest_20 (fun k4 M4 F4 H locs hr4 hp4 Wd => ?_)
        obtain ⟨rfl, hQ4⟩ := hp4
        have hL4 := hQ4.1
        refine z_icmp_ge C0 (tgt := 75) (zR_mk (by omega) (by omega)) hr4 dL_nearest_23 (by decide) (fun c5 => ?_) (fun c5 => ?_)
        · skip
          refine W.widen (k := (0)) (n := (0)) (by omega) (by omega) ?_
          exact aft17 k17 (by omega) bs M4 F4 hL4 (by first | assumption | omega) (by first | assumption | omega) hb17 _ _ _ Wd (lv_sub hl [0, 1, 2, 3, 4, 5] rfl)
        · skip
          refine z_iload_n C0 hl 3 rfl dL_nearest_26 ?_
          refine z_if_le C0 (tgt := 75) (zR_mk (by decide) (by decide)) dL_nearest_27 (by decide) (fun c6 => ?_) (fun h9 => (by exfalso; omega))
          refine W.widen (k := (0)) (n := (0)) (by omega) (by omega) ?_
          exact aft17 k17 (by omega) bs M4 F4 hL4 (by first | assumption | omega) (by first | assumption | omega) hb17 _ _ _ Wd (lv_sub hl [0, 1, 2, 3, 4, 5] rfl)
    refine W.widen (k := (0 * 0 + 0)) (n := (0 * 0 + 0)) (by omega) (by omega) ?_
    exact lp17 (V 0).toNat 0 (by omega) (zne V x1 0 x0) M8012 F8012 hL8012 (zne_bd 0 x0) rfl _ _ _ Wd (lv_sub hl [2, 3, 4, 5, 1, 0] rfl)
  refine z_iload_n C0 hl 1 rfl dL_nearest_0 ?_
  refine z_iload_n C0 hl 2 rfl dL_nearest_1 ?_
  refine z_icmp_ne C0 (tgt := 9) hx0 hx1 dL_nearest_2 (by decide) (fun c7 => ?_) (fun c7 => ?_)
  · skip
    refine z_sipush C0 dL_nearest_9 (by decide) ?_
    refine z_top (congrArg zI (show 999 = (zne V x1 0 x0) from (if_neg c7).symm)) ?_
    refine W.widen (k := (0)) (n := (0)) (by omega) (by omega) ?_
    exact jn12  M F hL  _ _ _ Wd (lv_sub hl [0, 1, 2, 3] rfl)
  · skip
    refine z_iconst C0 dL_nearest_5 ?_
    refine z_goto C0 (tgt := 12) dL_nearest_6 (by decide) ?_
    refine z_top (congrArg zI (show 0 = (zne V x1 0 x0) from (if_pos c7).symm)) ?_
    refine W.widen (k := (0)) (n := (0)) (by omega) (by omega) ?_
    exact jn12  M F hL  _ _ _ Wd (lv_sub hl [0, 1, 2, 3] rfl)
set_option maxHeartbeats 4000000 in
set_option maxRecDepth 100000 in
theorem lw_nearest_1 (l : Launch) (g : zG) (zX : va_W) (ad : Int → Nat) (M F : zMem) {t many : Int} {V : Int → Int} {U : Int → Int → Int} (hL : zLw t many V U M F) (h5 : V 0 ≤ 5) (x0 : Int) (hx0 : zR x0) (x1 : Int) (hx1 : zR x1) (h0 : zisC V x0) (h1 : zisC V x1) (hst : l.stackTraces = false) : zMt l yL_nearest cL_nearest 7 (some .int) 11 15 90 g (0, 398, zX) ad [.ref (ad 0), .int (zI x0), .int (zI x1), .int (zI 1)] M F (zPi (fun k M' F' => k = zne V x1 1 x0 ∧ zLw t many V U M' F')) := by
  refine zMt.of "DrumWarrenLaw" rfl (by decide +kernel) (Nat.le_of_ble_eq_true rfl) (fun {p e s m args below meth c ls} C0 Wd hl hret hlk hin => ?_)
  have hl : lv_has ls 7 [(0, .ref (ad 0)), (1, .int (zI x0)), (2, .int (zI x1)), (3, .int (zI 1))] := hl
  have hv0 := hL.v0
  have h00 := h0.1
  have h01 := h0.2
  have h10 := h1.1
  have h11 := h1.2
  have jn12 : ∀ (M8012 F8012 : zMem) (hL8012 : zLw t many V U M8012 F8012) (H : Heap) (locs : List Loc) (ls : Array Slot) (Wd : zW g (zA (0, 398, zX) ad s.heap.size) s.heap (0, 398, zX) ad M8012 F8012 H locs) (hl : lv_has ls 7 [(0, .ref (ad 0)), (1, .int (zI x0)), (2, .int (zI x1)), (3, .int (zI 1))]), W p l e (zrm 11 15 90) s m args below meth c H locs (0) (0) (zMQ below g (0, 398, zX) ad (zPi (fun k M' F' => k = zne V x1 1 x0 ∧ zLw t many V U M' F')) args s 15 90) (F0 m 12 ls [.int (zI (zne V x1 0 x0))]) := by
    intro M8012 F8012 hL8012 H locs ls Wd hl
    refine z_istore C0 hl [(4, .int (zI (zne V x1 0 x0))), (0, .ref (ad 0)), (1, .int (zI x0)), (2, .int (zI x1)), (3, .int (zI 1))] (by decide) rfl dL_nearest_12 (fun ls hl => ?_)
    refine z_iconst C0 dL_nearest_14 ?_
    refine z_istore C0 hl [(5, .int (zI 0)), (4, .int (zI (zne V x1 0 x0))), (0, .ref (ad 0)), (1, .int (zI x0)), (2, .int (zI x1)), (3, .int (zI 1))] (by decide) rfl dL_nearest_15 (fun ls hl => ?_)
    have hb17 : V 0 ≤ 5 := by omega
    have aft17 : ∀ (k17 : Nat) (hk17 : (k17 : Int) ≤ V 0) (bs : Int) (M9017 F9017 : zMem) (hL9017 : zLw t many V U M9017 F9017) (hb1 : 0 ≤ bs ∧ bs ≤ 999) (hb17 : bs = zfold (zne1 V x0 (zne V x1 0)) k17 (zne V x1 0 x0)) (hx17 : bs = zne V x1 1 x0) (H : Heap) (locs : List Loc) (ls : Array Slot) (Wd : zW g (zA (0, 398, zX) ad s.heap.size) s.heap (0, 398, zX) ad M9017 F9017 H locs) (hl : lv_has ls 7 [(0, .ref (ad 0)), (1, .int (zI x0)), (2, .int (zI x1)), (3, .int (zI 1)), (4, .int (zI bs)), (5, .int (zI (k17 : Int)))]), W p l e (zrm 11 15 90) s m args below meth c H locs (15) (90) (zMQ below g (0, 398, zX) ad (zPi (fun k M' F' => k = zne V x1 1 x0 ∧ zLw t many V U M' F')) args s 15 90) (F0 m 75 ls []) := by
      intro k17 hk17 bs M9017 F9017 hL9017 hb1 hb17 hx17 H locs ls Wd hl
      refine z_iload C0 hl 4 rfl dL_nearest_75 ?_
      refine W.widen (k := 15) (n := 90) (by omega) (by omega) ?_
      exact z_iret C0 Wd hret hlk (zR_mk (by omega) (by omega)) ⟨hx17, hL9017⟩ dL_nearest_77
    have lp17 : ∀ (d17 k17 : Nat) (hk17 : (k17 : Int) + d17 = V 0) (bs : Int) (M9017 F9017 : zMem) (hL9017 : zLw t many V U M9017 F9017) (hb1 : 0 ≤ bs ∧ bs ≤ 999) (hb17 : bs = zfold (zne1 V x0 (zne V x1 0)) k17 (zne V x1 0 x0)) (H : Heap) (locs : List Loc) (ls : Array Slot) (Wd : zW g (zA (0, 398, zX) ad s.heap.size) s.heap (0, 398, zX) ad M9017 F9017 H locs) (hl : lv_has ls 7 [(0, .ref (ad 0)), (1, .int (zI x0)), (2, .int (zI x1)), (3, .int (zI 1)), (4, .int (zI bs)), (5, .int (zI (k17 : Int)))]), W p l e (zrm 11 15 90) s m args below meth c H locs (3 * k17 + 0) (18 * k17 + 0) (zMQ below g (0, 398, zX) ad (zPi (fun k M' F' => k = zne V x1 1 x0 ∧ zLw t many V U M' F')) args s 15 90) (F0 m 17 ls []) := by
      intro d17
      induction d17 with
      | zero =>
        intro k17 hk17 bs M9017 F9017 hL9017 hb1 hb17 H locs ls Wd hl
        refine z_iload C0 hl 5 rfl dL_nearest_17 ?_
        refine z_aload_n C0 hl 0 rfl dL_nearest_19 ?_
        refine z_invVi (As := []) (rest := [.int (zI (k17 : Int))]) C0 Wd (hv_chamberCount l g zX ad M9017 F9017 hL9017) kv_X11_chamberCount zN0 (zE_8 zK0) rfl zk_773 rfl hl.1 rfl (Nat.le_of_ble_eq_true rfl) (by decide) ⟨by show _ ≤ 15; omega, by show _ ≤ 90; omega⟩ dL_nearest_20 (fun k1 M1 F1 H locs hr1 hp1 Wd => ?_)
        obtain ⟨rfl, hQ1⟩ := hp1
        have hL1 := hQ1.1
        refine z_icmp_ge C0 (tgt := 75) (zR_mk (by omega) (by omega)) hr1 dL_nearest_23 (by decide) (fun c2 => ?_) (fun c2 => ?_)
        · skip
          refine W.widen (k := (15)) (n := (90)) (by omega) (by omega) ?_
          exact aft17 k17 (by omega) bs M1 F1 hL1 (by first | assumption | omega) (by first | assumption | omega) (zne_stop (by omega) hb17 (by first | exact Or.inl (by omega) | exact Or.inr (by omega))) _ _ _ Wd (lv_sub hl [0, 1, 2, 3, 4, 5] rfl)
        · skip
          refine z_iload_n C0 hl 3 rfl dL_nearest_26 ?_
          refine z_if_le C0 (tgt := 75) (zR_mk (by decide) (by decide)) dL_nearest_27 (by decide) (fun h => absurd h (by decide)) (fun _ => ?_)
          refine z_iload C0 hl 4 rfl dL_nearest_30 ?_
          refine z_if_le C0 (tgt := 75) (zR_mk (by omega) (by omega)) dL_nearest_32 (by decide) (fun c4 => ?_) (fun c4 => ?_)
          · skip
            refine W.widen (k := (15)) (n := (90)) (by omega) (by omega) ?_
            exact aft17 k17 (by omega) bs M1 F1 hL1 (by first | assumption | omega) (by first | assumption | omega) (zne_stop (by omega) hb17 (by first | exact Or.inl (by omega) | exact Or.inr (by omega))) _ _ _ Wd (lv_sub hl [0, 1, 2, 3, 4, 5] rfl)
          · skip
            exfalso; omega
      | succ d17 ih17 =>
        intro k17 hk17 bs M9017 F9017 hL9017 hb1 hb17 H locs ls Wd hl
        refine z_iload C0 hl 5 rfl dL_nearest_17 ?_
        refine z_aload_n C0 hl 0 rfl dL_nearest_19 ?_
        refine z_invVi (As := []) (rest := [.int (zI (k17 : Int))]) C0 Wd (hv_chamberCount l g zX ad M9017 F9017 hL9017) kv_X11_chamberCount zN0 (zE_8 zK0) rfl zk_773 rfl hl.1 rfl (Nat.le_of_ble_eq_true rfl) (by decide) ⟨by show _ ≤ 15; omega, by show _ ≤ 90; omega⟩ dL_nearest_20 (fun k5 M5 F5 H locs hr5 hp5 Wd => ?_)
        obtain ⟨rfl, hQ5⟩ := hp5
        have hL5 := hQ5.1
        refine z_icmp_ge C0 (tgt := 75) (zR_mk (by omega) (by omega)) hr5 dL_nearest_23 (by decide) (fun c6 => ?_) (fun c6 => ?_)
        · skip
          refine W.widen (k := (15)) (n := (90)) (by omega) (by omega) ?_
          exact aft17 k17 (by omega) bs M5 F5 hL5 (by first | assumption | omega) (by first | assumption | omega) (zne_stop (by omega) hb17 (by first | exact Or.inl (by omega) | exact Or.inr (by omega))) _ _ _ Wd (lv_sub hl [0, 1, 2, 3, 4, 5] rfl)
        · skip
          refine z_iload_n C0 hl 3 rfl dL_nearest_26 ?_
          refine z_if_le C0 (tgt := 75) (zR_mk (by decide) (by decide)) dL_nearest_27 (by decide) (fun h => absurd h (by decide)) (fun _ => ?_)
          refine z_iload C0 hl 4 rfl dL_nearest_30 ?_
          refine z_if_le C0 (tgt := 75) (zR_mk (by omega) (by omega)) dL_nearest_32 (by decide) (fun c8 => ?_) (fun c8 => ?_)
          · skip
            refine W.widen (k := (15)) (n := (90)) (by omega) (by omega) ?_
            exact aft17 k17 (by omega) bs M5 F5 hL5 (by first | assumption | omega) (by first | assumption | omega) (zne_stop (by omega) hb17 (by first | exact Or.inl (by omega) | exact Or.inr (by omega))) _ _ _ Wd (lv_sub hl [0, 1, 2, 3, 4, 5] rfl)
          · skip
            refine z_aload_n C0 hl 0 rfl dL_nearest_35 ?_
            refine z_iload_n C0 hl 1 rfl dL_nearest_36 ?_
            refine z_iload C0 hl 5 rfl dL_nearest_37 ?_
            refine z_invSH (As := [.ref (ad 0), .int (zI x0), .int (zI (k17 : Int))]) (rest := []) C0 Wd hst (hq_delayOf l g zX ad M5 F5 hL5 x0 hx0 (k17 : Int) (zR_mk (by omega) (by omega)) ) hs_delayOf zk_777 rfl hl.1 rfl (Nat.le_of_ble_eq_true rfl) (by decide) ⟨by show _ ≤ 15; omega, by show _ ≤ 90; omega⟩ dL_nearest_39 (fun k9 M9 F9 H locs hr9 hp9 Wd => ?_)
            obtain ⟨rfl, hQ9⟩ := hp9
            have hL9 := hQ9.1
            refine z_istore C0 hl [(6, .int (zI (qDl V x0 (k17 : Int)))), (0, .ref (ad 0)), (1, .int (zI x0)), (2, .int (zI x1)), (3, .int (zI 1)), (4, .int (zI bs)), (5, .int (zI (k17 : Int)))] (by decide) rfl dL_nearest_42 (fun ls hl => ?_)
            refine z_iload C0 hl 0 rfl dL_nearest_44 ?_
            refine z_if_le C0 (tgt := 69) hr9 dL_nearest_46 (by decide) (fun c10 => ?_) (fun c10 => ?_)
            · skip
              refine z_iinc C0 hl 6 (t := (k17 : Int)) (u := ((k17 : Int) + 1)) rfl (by omega) [(5, .int (zI ((k17 : Int) + 1))), (6, .int (zI (qDl V x0 (k17 : Int)))), (0, .ref (ad 0)), (1, .int (zI x0)), (2, .int (zI x1)), (3, .int (zI 1)), (4, .int (zI bs))] (by decide) rfl dL_nearest_69 (fun ls hl => ?_)
              refine z_goto C0 (tgt := 17) dL_nearest_72 (by decide) ?_
              refine W.widen (k := (3 * (k17 + 1) + 0)) (n := (18 * (k17 + 1) + 0)) (by omega) (by omega) ?_
              exact ih17 (k17 + 1) (by omega) bs M9 F9 hL9 hb1 (zne_st0 hL ⟨h0, ⟨by omega, by omega⟩⟩ (by omega) hb17) _ _ _ Wd (lv_sub hl [2, 3, 4, 5, 6, 0] rfl)
            · skip
              refine z_iload C0 hl 5 rfl dL_nearest_49 ?_
              refine z_iload C0 hl 0 rfl dL_nearest_51 ?_
              refine z_aload_n C0 hl 1 rfl dL_nearest_53 ?_
              refine z_iload C0 hl 6 rfl dL_nearest_54 ?_
              refine z_iload_n C0 hl 3 rfl dL_nearest_56 ?_
              refine z_iload_n C0 hl 4 rfl dL_nearest_57 ?_
              refine z_iconst C0 dL_nearest_58 ?_
              refine z_isub C0 dL_nearest_59 ?_
              refine z_top (congrArg zI (show (1 - 1 : Int) = 0 by decide)) ?_
              refine z_invSi (As := [.ref (ad 0), .int (zI (k17 : Int)), .int (zI x1), .int (zI 0)]) (rest := [.int (zI (qDl V x0 (k17 : Int))), .int (zI bs)]) C0 Wd (lw_nearest_0 l g zX ad M9 F9 hL9 h5 (k17 : Int) (zR_mk (by omega) (by omega)) x1 hx1 ⟨by omega, by omega⟩ h1 hst) ks_L_nearest zk_805 rfl hl.1 rfl (Nat.le_of_ble_eq_true rfl) (by decide) ⟨by show _ ≤ 15; omega, by show _ ≤ 90; omega⟩ dL_nearest_60 (fun k11 M11 F11 H locs hr11 hp11 Wd => ?_)
              obtain ⟨rfl, hL11⟩ := hp11
              refine z_iadd C0 dL_nearest_63 ?_
              have hz1 := zne_bd (V := V) (b := x1) 0 (k17 : Int)
              have hz2 := qDl_9 hL (a := x0) (b := (k17 : Int)) ⟨h0, by omega, by omega⟩
              refine z_invSi (As := [.int (zI bs), .int (zI ((qDl V x0 (k17 : Int)) + (zne V x1 0 (k17 : Int))))]) (rest := []) C0 Wd (ct_J9_min_7cf53 l g (0, 398, zX) zN396 zN397 ad M11 F11 bs (zR_mk (by omega) (by omega)) ((qDl V x0 (k17 : Int)) + (zne V x1 0 (k17 : Int))) (by have q0 := hr11.1; have p0 := hr11.2; have q1 := hr9.1; have p1 := hr9.2; exact zR_mk (by omega) (by omega))) kv_J9_min_7cf53 zk_808 rfl hl.1 rfl (Nat.le_of_ble_eq_true rfl) (by decide) ⟨by show _ ≤ 15; omega, by show _ ≤ 90; omega⟩ dL_nearest_64 (fun k12 M12 F12 H locs hr12 hp12 Wd => ?_)
              obtain ⟨rfl, rfl, rfl⟩ := hp12
              refine z_istore C0 hl [(4, .int (zI (if bs ≤ ((qDl V x0 (k17 : Int)) + (zne V x1 0 (k17 : Int))) then bs else ((qDl V x0 (k17 : Int)) + (zne V x1 0 (k17 : Int)))))), (6, .int (zI (qDl V x0 (k17 : Int)))), (0, .ref (ad 0)), (1, .int (zI x0)), (2, .int (zI x1)), (3, .int (zI 1)), (5, .int (zI (k17 : Int)))] (by decide) rfl dL_nearest_67 (fun ls hl => ?_)
              refine z_iinc C0 hl 6 (t := (k17 : Int)) (u := ((k17 : Int) + 1)) rfl (by omega) [(5, .int (zI ((k17 : Int) + 1))), (4, .int (zI (if bs ≤ ((qDl V x0 (k17 : Int)) + (zne V x1 0 (k17 : Int))) then bs else ((qDl V x0 (k17 : Int)) + (zne V x1 0 (k17 : Int)))))), (6, .int (zI (qDl V x0 (k17 : Int)))), (0, .ref (ad 0)), (1, .int (zI x0)), (2, .int (zI x1)), (3, .int (zI 1))] (by decide) rfl dL_nearest_69 (fun ls hl => ?_)
              refine z_goto C0 (tgt := 17) dL_nearest_72 (by decide) ?_
              refine W.widen (k := (3 * (k17 + 1) + 0)) (n := (18 * (k17 + 1) + 0)) (by omega) (by omega) ?_
              exact ih17 (k17 + 1) (by omega) (if bs ≤ ((qDl V x0 (k17 : Int)) + (zne V x1 0 (k17 : Int))) then bs else ((qDl V x0 (k17 : Int)) + (zne V x1 0 (k17 : Int)))) M11 F11 hL11 (by split <;> omega) (zne_st1 ⟨h0, ⟨by omega, by omega⟩⟩ (by omega) (by omega) hb17 rfl) _ _ _ Wd (lv_sub hl [3, 4, 5, 6, 1, 0] rfl)
    refine W.widen (k := (3 * 0 + 0)) (n := (18 * 0 + 0)) (by omega) (by omega) ?_
    exact lp17 (V 0).toNat 0 (by omega) (zne V x1 0 x0) M8012 F8012 hL8012 (zne_bd 0 x0) rfl _ _ _ Wd (lv_sub hl [2, 3, 4, 5, 1, 0] rfl)
  refine z_iload_n C0 hl 1 rfl dL_nearest_0 ?_
  refine z_iload_n C0 hl 2 rfl dL_nearest_1 ?_
  refine z_icmp_ne C0 (tgt := 9) hx0 hx1 dL_nearest_2 (by decide) (fun c13 => ?_) (fun c13 => ?_)
  · skip
    refine z_sipush C0 dL_nearest_9 (by decide) ?_
    refine z_top (congrArg zI (show 999 = (zne V x1 0 x0) from (if_neg c13).symm)) ?_
    refine W.widen (k := (0)) (n := (0)) (by omega) (by omega) ?_
    exact jn12  M F hL  _ _ _ Wd (lv_sub hl [0, 1, 2, 3] rfl)
  · skip
    refine z_iconst C0 dL_nearest_5 ?_
    refine z_goto C0 (tgt := 12) dL_nearest_6 (by decide) ?_
    refine z_top (congrArg zI (show 0 = (zne V x1 0 x0) from (if_pos c13).symm)) ?_
    refine W.widen (k := (0)) (n := (0)) (by omega) (by omega) ?_
    exact jn12  M F hL  _ _ _ Wd (lv_sub hl [0, 1, 2, 3] rfl)
set_option maxHeartbeats 4000000 in
set_option maxRecDepth 100000 in
theorem lw_nearest_2 (l : Launch) (g : zG) (zX : va_W) (ad : Int → Nat) (M F : zMem) {t many : Int} {V : Int → Int} {U : Int → Int → Int} (hL : zLw t many V U M F) (h5 : V 0 ≤ 5) (x0 : Int) (hx0 : zR x0) (x1 : Int) (hx1 : zR x1) (h0 : zisC V x0) (h1 : zisC V x1) (hst : l.stackTraces = false) : zMt l yL_nearest cL_nearest 7 (some .int) 12 90 540 g (0, 398, zX) ad [.ref (ad 0), .int (zI x0), .int (zI x1), .int (zI 2)] M F (zPi (fun k M' F' => k = zne V x1 2 x0 ∧ zLw t many V U M' F')) := by
  refine zMt.of "DrumWarrenLaw" rfl (by decide +kernel) (Nat.le_of_ble_eq_true rfl) (fun {p e s m args below meth c ls} C0 Wd hl hret hlk hin => ?_)
  have hl : lv_has ls 7 [(0, .ref (ad 0)), (1, .int (zI x0)), (2, .int (zI x1)), (3, .int (zI 2))] := hl
  have hv0 := hL.v0
  have h00 := h0.1
  have h01 := h0.2
  have h10 := h1.1
  have h11 := h1.2
  have jn12 : ∀ (M8012 F8012 : zMem) (hL8012 : zLw t many V U M8012 F8012) (H : Heap) (locs : List Loc) (ls : Array Slot) (Wd : zW g (zA (0, 398, zX) ad s.heap.size) s.heap (0, 398, zX) ad M8012 F8012 H locs) (hl : lv_has ls 7 [(0, .ref (ad 0)), (1, .int (zI x0)), (2, .int (zI x1)), (3, .int (zI 2))]), W p l e (zrm 12 90 540) s m args below meth c H locs (0) (0) (zMQ below g (0, 398, zX) ad (zPi (fun k M' F' => k = zne V x1 2 x0 ∧ zLw t many V U M' F')) args s 90 540) (F0 m 12 ls [.int (zI (zne V x1 0 x0))]) := by
    intro M8012 F8012 hL8012 H locs ls Wd hl
    refine z_istore C0 hl [(4, .int (zI (zne V x1 0 x0))), (0, .ref (ad 0)), (1, .int (zI x0)), (2, .int (zI x1)), (3, .int (zI 2))] (by decide) rfl dL_nearest_12 (fun ls hl => ?_)
    refine z_iconst C0 dL_nearest_14 ?_
    refine z_istore C0 hl [(5, .int (zI 0)), (4, .int (zI (zne V x1 0 x0))), (0, .ref (ad 0)), (1, .int (zI x0)), (2, .int (zI x1)), (3, .int (zI 2))] (by decide) rfl dL_nearest_15 (fun ls hl => ?_)
    have hb17 : V 0 ≤ 5 := by omega
    have aft17 : ∀ (k17 : Nat) (hk17 : (k17 : Int) ≤ V 0) (bs : Int) (M9017 F9017 : zMem) (hL9017 : zLw t many V U M9017 F9017) (hb1 : 0 ≤ bs ∧ bs ≤ 999) (hb17 : bs = zfold (zne1 V x0 (zne V x1 1)) k17 (zne V x1 0 x0)) (hx17 : bs = zne V x1 2 x0) (H : Heap) (locs : List Loc) (ls : Array Slot) (Wd : zW g (zA (0, 398, zX) ad s.heap.size) s.heap (0, 398, zX) ad M9017 F9017 H locs) (hl : lv_has ls 7 [(0, .ref (ad 0)), (1, .int (zI x0)), (2, .int (zI x1)), (3, .int (zI 2)), (4, .int (zI bs)), (5, .int (zI (k17 : Int)))]), W p l e (zrm 12 90 540) s m args below meth c H locs (90) (540) (zMQ below g (0, 398, zX) ad (zPi (fun k M' F' => k = zne V x1 2 x0 ∧ zLw t many V U M' F')) args s 90 540) (F0 m 75 ls []) := by
      intro k17 hk17 bs M9017 F9017 hL9017 hb1 hb17 hx17 H locs ls Wd hl
      refine z_iload C0 hl 4 rfl dL_nearest_75 ?_
      refine W.widen (k := 90) (n := 540) (by omega) (by omega) ?_
      exact z_iret C0 Wd hret hlk (zR_mk (by omega) (by omega)) ⟨hx17, hL9017⟩ dL_nearest_77
    have lp17 : ∀ (d17 k17 : Nat) (hk17 : (k17 : Int) + d17 = V 0) (bs : Int) (M9017 F9017 : zMem) (hL9017 : zLw t many V U M9017 F9017) (hb1 : 0 ≤ bs ∧ bs ≤ 999) (hb17 : bs = zfold (zne1 V x0 (zne V x1 1)) k17 (zne V x1 0 x0)) (H : Heap) (locs : List Loc) (ls : Array Slot) (Wd : zW g (zA (0, 398, zX) ad s.heap.size) s.heap (0, 398, zX) ad M9017 F9017 H locs) (hl : lv_has ls 7 [(0, .ref (ad 0)), (1, .int (zI x0)), (2, .int (zI x1)), (3, .int (zI 2)), (4, .int (zI bs)), (5, .int (zI (k17 : Int)))]), W p l e (zrm 12 90 540) s m args below meth c H locs (18 * k17 + 0) (108 * k17 + 0) (zMQ below g (0, 398, zX) ad (zPi (fun k M' F' => k = zne V x1 2 x0 ∧ zLw t many V U M' F')) args s 90 540) (F0 m 17 ls []) := by
      intro d17
      induction d17 with
      | zero =>
        intro k17 hk17 bs M9017 F9017 hL9017 hb1 hb17 H locs ls Wd hl
        refine z_iload C0 hl 5 rfl dL_nearest_17 ?_
        refine z_aload_n C0 hl 0 rfl dL_nearest_19 ?_
        refine z_invVi (As := []) (rest := [.int (zI (k17 : Int))]) C0 Wd (hv_chamberCount l g zX ad M9017 F9017 hL9017) kv_X11_chamberCount zN0 (zE_8 zK0) rfl zk_773 rfl hl.1 rfl (Nat.le_of_ble_eq_true rfl) (by decide) ⟨by show _ ≤ 90; omega, by show _ ≤ 540; omega⟩ dL_nearest_20 (fun k1 M1 F1 H locs hr1 hp1 Wd => ?_)
        obtain ⟨rfl, hQ1⟩ := hp1
        have hL1 := hQ1.1
        refine z_icmp_ge C0 (tgt := 75) (zR_mk (by omega) (by omega)) hr1 dL_nearest_23 (by decide) (fun c2 => ?_) (fun c2 => ?_)
        · skip
          refine W.widen (k := (90)) (n := (540)) (by omega) (by omega) ?_
          exact aft17 k17 (by omega) bs M1 F1 hL1 (by first | assumption | omega) (by first | assumption | omega) (zne_stop (by omega) hb17 (by first | exact Or.inl (by omega) | exact Or.inr (by omega))) _ _ _ Wd (lv_sub hl [0, 1, 2, 3, 4, 5] rfl)
        · skip
          refine z_iload_n C0 hl 3 rfl dL_nearest_26 ?_
          refine z_if_le C0 (tgt := 75) (zR_mk (by decide) (by decide)) dL_nearest_27 (by decide) (fun h => absurd h (by decide)) (fun _ => ?_)
          refine z_iload C0 hl 4 rfl dL_nearest_30 ?_
          refine z_if_le C0 (tgt := 75) (zR_mk (by omega) (by omega)) dL_nearest_32 (by decide) (fun c4 => ?_) (fun c4 => ?_)
          · skip
            refine W.widen (k := (90)) (n := (540)) (by omega) (by omega) ?_
            exact aft17 k17 (by omega) bs M1 F1 hL1 (by first | assumption | omega) (by first | assumption | omega) (zne_stop (by omega) hb17 (by first | exact Or.inl (by omega) | exact Or.inr (by omega))) _ _ _ Wd (lv_sub hl [0, 1, 2, 3, 4, 5] rfl)
          · skip
            exfalso; omega
      | succ d17 ih17 =>
        intro k17 hk17 bs M9017 F9017 hL9017 hb1 hb17 H locs ls Wd hl
        refine z_iload C0 hl 5 rfl dL_nearest_17 ?_
        refine z_aload_n C0 hl 0 rfl dL_nearest_19 ?_
        refine z_invVi (As := []) (rest := [.int (zI (k17 : Int))]) C0 Wd (hv_chamberCount l g zX ad M9017 F9017 hL9017) kv_X11_chamberCount zN0 (zE_8 zK0) rfl zk_773 rfl hl.1 rfl (Nat.le_of_ble_eq_true rfl) (by decide) ⟨by show _ ≤ 90; omega, by show _ ≤ 540; omega⟩ dL_nearest_20 (fun k5 M5 F5 H locs hr5 hp5 Wd => ?_)
        obtain ⟨rfl, hQ5⟩ := hp5
        have hL5 := hQ5.1
        refine z_icmp_ge C0 (tgt := 75) (zR_mk (by omega) (by omega)) hr5 dL_nearest_23 (by decide) (fun c6 => ?_) (fun c6 => ?_)
        · skip
          refine W.widen (k := (90)) (n := (540)) (by omega) (by omega) ?_
          exact aft17 k17 (by omega) bs M5 F5 hL5 (by first | assumption | omega) (by first | assumption | omega) (zne_stop (by omega) hb17 (by first | exact Or.inl (by omega) | exact Or.inr (by omega))) _ _ _ Wd (lv_sub hl [0, 1, 2, 3, 4, 5] rfl)
        · skip
          refine z_iload_n C0 hl 3 rfl dL_nearest_26 ?_
          refine z_if_le C0 (tgt := 75) (zR_mk (by decide) (by decide)) dL_nearest_27 (by decide) (fun h => absurd h (by decide)) (fun _ => ?_)
          refine z_iload C0 hl 4 rfl dL_nearest_30 ?_
          refine z_if_le C0 (tgt := 75) (zR_mk (by omega) (by omega)) dL_nearest_32 (by decide) (fun c8 => ?_) (fun c8 => ?_)
          · skip
            refine W.widen (k := (90)) (n := (540)) (by omega) (by omega) ?_
            exact aft17 k17 (by omega) bs M5 F5 hL5 (by first | assumption | omega) (by first | assumption | omega) (zne_stop (by omega) hb17 (by first | exact Or.inl (by omega) | exact Or.inr (by omega))) _ _ _ Wd (lv_sub hl [0, 1, 2, 3, 4, 5] rfl)
          · skip
            refine z_aload_n C0 hl 0 rfl dL_nearest_35 ?_
            refine z_iload_n C0 hl 1 rfl dL_nearest_36 ?_
            refine z_iload C0 hl 5 rfl dL_nearest_37 ?_
            refine z_invSH (As := [.ref (ad 0), .int (zI x0), .int (zI (k17 : Int))]) (rest := []) C0 Wd hst (hq_delayOf l g zX ad M5 F5 hL5 x0 hx0 (k17 : Int) (zR_mk (by omega) (by omega)) ) hs_delayOf zk_777 rfl hl.1 rfl (Nat.le_of_ble_eq_true rfl) (by decide) ⟨by show _ ≤ 90; omega, by show _ ≤ 540; omega⟩ dL_nearest_39 (fun k9 M9 F9 H locs hr9 hp9 Wd => ?_)
            obtain ⟨rfl, hQ9⟩ := hp9
            have hL9 := hQ9.1
            refine z_istore C0 hl [(6, .int (zI (qDl V x0 (k17 : Int)))), (0, .ref (ad 0)), (1, .int (zI x0)), (2, .int (zI x1)), (3, .int (zI 2)), (4, .int (zI bs)), (5, .int (zI (k17 : Int)))] (by decide) rfl dL_nearest_42 (fun ls hl => ?_)
            refine z_iload C0 hl 0 rfl dL_nearest_44 ?_
            refine z_if_le C0 (tgt := 69) hr9 dL_nearest_46 (by decide) (fun c10 => ?_) (fun c10 => ?_)
            · skip
              refine z_iinc C0 hl 6 (t := (k17 : Int)) (u := ((k17 : Int) + 1)) rfl (by omega) [(5, .int (zI ((k17 : Int) + 1))), (6, .int (zI (qDl V x0 (k17 : Int)))), (0, .ref (ad 0)), (1, .int (zI x0)), (2, .int (zI x1)), (3, .int (zI 2)), (4, .int (zI bs))] (by decide) rfl dL_nearest_69 (fun ls hl => ?_)
              refine z_goto C0 (tgt := 17) dL_nearest_72 (by decide) ?_
              refine W.widen (k := (18 * (k17 + 1) + 0)) (n := (108 * (k17 + 1) + 0)) (by omega) (by omega) ?_
              exact ih17 (k17 + 1) (by omega) bs M9 F9 hL9 hb1 (zne_st0 hL ⟨h0, ⟨by omega, by omega⟩⟩ (by omega) hb17) _ _ _ Wd (lv_sub hl [2, 3, 4, 5, 6, 0] rfl)
            · skip
              refine z_iload C0 hl 5 rfl dL_nearest_49 ?_
              refine z_iload C0 hl 0 rfl dL_nearest_51 ?_
              refine z_aload_n C0 hl 1 rfl dL_nearest_53 ?_
              refine z_iload C0 hl 6 rfl dL_nearest_54 ?_
              refine z_iload_n C0 hl 3 rfl dL_nearest_56 ?_
              refine z_iload_n C0 hl 4 rfl dL_nearest_57 ?_
              refine z_iconst C0 dL_nearest_58 ?_
              refine z_isub C0 dL_nearest_59 ?_
              refine z_top (congrArg zI (show (2 - 1 : Int) = 1 by decide)) ?_
              refine z_invSi (As := [.ref (ad 0), .int (zI (k17 : Int)), .int (zI x1), .int (zI 1)]) (rest := [.int (zI (qDl V x0 (k17 : Int))), .int (zI bs)]) C0 Wd (lw_nearest_1 l g zX ad M9 F9 hL9 h5 (k17 : Int) (zR_mk (by omega) (by omega)) x1 hx1 ⟨by omega, by omega⟩ h1 hst) ks_L_nearest zk_805 rfl hl.1 rfl (Nat.le_of_ble_eq_true rfl) (by decide) ⟨by show _ ≤ 90; omega, by show _ ≤ 540; omega⟩ dL_nearest_60 (fun k11 M11 F11 H locs hr11 hp11 Wd => ?_)
              obtain ⟨rfl, hL11⟩ := hp11
              refine z_iadd C0 dL_nearest_63 ?_
              have hz1 := zne_bd (V := V) (b := x1) 1 (k17 : Int)
              have hz2 := qDl_9 hL (a := x0) (b := (k17 : Int)) ⟨h0, by omega, by omega⟩
              refine z_invSi (As := [.int (zI bs), .int (zI ((qDl V x0 (k17 : Int)) + (zne V x1 1 (k17 : Int))))]) (rest := []) C0 Wd (ct_J9_min_7cf53 l g (0, 398, zX) zN396 zN397 ad M11 F11 bs (zR_mk (by omega) (by omega)) ((qDl V x0 (k17 : Int)) + (zne V x1 1 (k17 : Int))) (by have q0 := hr11.1; have p0 := hr11.2; have q1 := hr9.1; have p1 := hr9.2; exact zR_mk (by omega) (by omega))) kv_J9_min_7cf53 zk_808 rfl hl.1 rfl (Nat.le_of_ble_eq_true rfl) (by decide) ⟨by show _ ≤ 90; omega, by show _ ≤ 540; omega⟩ dL_nearest_64 (fun k12 M12 F12 H locs hr12 hp12 Wd => ?_)
              obtain ⟨rfl, rfl, rfl⟩ := hp12
              refine z_istore C0 hl [(4, .int (zI (if bs ≤ ((qDl V x0 (k17 : Int)) + (zne V x1 1 (k17 : Int))) then bs else ((qDl V x0 (k17 : Int)) + (zne V x1 1 (k17 : Int)))))), (6, .int (zI (qDl V x0 (k17 : Int)))), (0, .ref (ad 0)), (1, .int (zI x0)), (2, .int (zI x1)), (3, .int (zI 2)), (5, .int (zI (k17 : Int)))] (by decide) rfl dL_nearest_67 (fun ls hl => ?_)
              refine z_iinc C0 hl 6 (t := (k17 : Int)) (u := ((k17 : Int) + 1)) rfl (by omega) [(5, .int (zI ((k17 : Int) + 1))), (4, .int (zI (if bs ≤ ((qDl V x0 (k17 : Int)) + (zne V x1 1 (k17 : Int))) then bs else ((qDl V x0 (k17 : Int)) + (zne V x1 1 (k17 : Int)))))), (6, .int (zI (qDl V x0 (k17 : Int)))), (0, .ref (ad 0)), (1, .int (zI x0)), (2, .int (zI x1)), (3, .int (zI 2))] (by decide) rfl dL_nearest_69 (fun ls hl => ?_)
              refine z_goto C0 (tgt := 17) dL_nearest_72 (by decide) ?_
              refine W.widen (k := (18 * (k17 + 1) + 0)) (n := (108 * (k17 + 1) + 0)) (by omega) (by omega) ?_
              exact ih17 (k17 + 1) (by omega) (if bs ≤ ((qDl V x0 (k17 : Int)) + (zne V x1 1 (k17 : Int))) then bs else ((qDl V x0 (k17 : Int)) + (zne V x1 1 (k17 : Int)))) M11 F11 hL11 (by split <;> omega) (zne_st1 ⟨h0, ⟨by omega, by omega⟩⟩ (by omega) (by omega) hb17 rfl) _ _ _ Wd (lv_sub hl [3, 4, 5, 6, 1, 0] rfl)
    refine W.widen (k := (18 * 0 + 0)) (n := (108 * 0 + 0)) (by omega) (by omega) ?_
    exact lp17 (V 0).toNat 0 (by omega) (zne V x1 0 x0) M8012 F8012 hL8012 (zne_bd 0 x0) rfl _ _ _ Wd (lv_sub hl [2, 3, 4, 5, 1, 0] rfl)
  refine z_iload_n C0 hl 1 rfl dL_nearest_0 ?_
  refine z_iload_n C0 hl 2 rfl dL_nearest_1 ?_
  refine z_icmp_ne C0 (tgt := 9) hx0 hx1 dL_nearest_2 (by decide) (fun c13 => ?_) (fun c13 => ?_)
  · skip
    refine z_sipush C0 dL_nearest_9 (by decide) ?_
    refine z_top (congrArg zI (show 999 = (zne V x1 0 x0) from (if_neg c13).symm)) ?_
    refine W.widen (k := (0)) (n := (0)) (by omega) (by omega) ?_
    exact jn12  M F hL  _ _ _ Wd (lv_sub hl [0, 1, 2, 3] rfl)
  · skip
    refine z_iconst C0 dL_nearest_5 ?_
    refine z_goto C0 (tgt := 12) dL_nearest_6 (by decide) ?_
    refine z_top (congrArg zI (show 0 = (zne V x1 0 x0) from (if_pos c13).symm)) ?_
    refine W.widen (k := (0)) (n := (0)) (by omega) (by omega) ?_
    exact jn12  M F hL  _ _ _ Wd (lv_sub hl [0, 1, 2, 3] rfl)
set_option maxHeartbeats 4000000 in
set_option maxRecDepth 100000 in
theorem lw_nearest_3 (l : Launch) (g : zG) (zX : va_W) (ad : Int → Nat) (M F : zMem) {t many : Int} {V : Int → Int} {U : Int → Int → Int} (hL : zLw t many V U M F) (h5 : V 0 ≤ 5) (x0 : Int) (hx0 : zR x0) (x1 : Int) (hx1 : zR x1) (h0 : zisC V x0) (h1 : zisC V x1) (hst : l.stackTraces = false) : zMt l yL_nearest cL_nearest 7 (some .int) 13 465 2790 g (0, 398, zX) ad [.ref (ad 0), .int (zI x0), .int (zI x1), .int (zI 3)] M F (zPi (fun k M' F' => k = zne V x1 3 x0 ∧ zLw t many V U M' F')) := by
  refine zMt.of "DrumWarrenLaw" rfl (by decide +kernel) (Nat.le_of_ble_eq_true rfl) (fun {p e s m args below meth c ls} C0 Wd hl hret hlk hin => ?_)
  have hl : lv_has ls 7 [(0, .ref (ad 0)), (1, .int (zI x0)), (2, .int (zI x1)), (3, .int (zI 3))] := hl
  have hv0 := hL.v0
  have h00 := h0.1
  have h01 := h0.2
  have h10 := h1.1
  have h11 := h1.2
  have jn12 : ∀ (M8012 F8012 : zMem) (hL8012 : zLw t many V U M8012 F8012) (H : Heap) (locs : List Loc) (ls : Array Slot) (Wd : zW g (zA (0, 398, zX) ad s.heap.size) s.heap (0, 398, zX) ad M8012 F8012 H locs) (hl : lv_has ls 7 [(0, .ref (ad 0)), (1, .int (zI x0)), (2, .int (zI x1)), (3, .int (zI 3))]), W p l e (zrm 13 465 2790) s m args below meth c H locs (0) (0) (zMQ below g (0, 398, zX) ad (zPi (fun k M' F' => k = zne V x1 3 x0 ∧ zLw t many V U M' F')) args s 465 2790) (F0 m 12 ls [.int (zI (zne V x1 0 x0))]) := by
    intro M8012 F8012 hL8012 H locs ls Wd hl
    refine z_istore C0 hl [(4, .int (zI (zne V x1 0 x0))), (0, .ref (ad 0)), (1, .int (zI x0)), (2, .int (zI x1)), (3, .int (zI 3))] (by decide) rfl dL_nearest_12 (fun ls hl => ?_)
    refine z_iconst C0 dL_nearest_14 ?_
    refine z_istore C0 hl [(5, .int (zI 0)), (4, .int (zI (zne V x1 0 x0))), (0, .ref (ad 0)), (1, .int (zI x0)), (2, .int (zI x1)), (3, .int (zI 3))] (by decide) rfl dL_nearest_15 (fun ls hl => ?_)
    have hb17 : V 0 ≤ 5 := by omega
    have aft17 : ∀ (k17 : Nat) (hk17 : (k17 : Int) ≤ V 0) (bs : Int) (M9017 F9017 : zMem) (hL9017 : zLw t many V U M9017 F9017) (hb1 : 0 ≤ bs ∧ bs ≤ 999) (hb17 : bs = zfold (zne1 V x0 (zne V x1 2)) k17 (zne V x1 0 x0)) (hx17 : bs = zne V x1 3 x0) (H : Heap) (locs : List Loc) (ls : Array Slot) (Wd : zW g (zA (0, 398, zX) ad s.heap.size) s.heap (0, 398, zX) ad M9017 F9017 H locs) (hl : lv_has ls 7 [(0, .ref (ad 0)), (1, .int (zI x0)), (2, .int (zI x1)), (3, .int (zI 3)), (4, .int (zI bs)), (5, .int (zI (k17 : Int)))]), W p l e (zrm 13 465 2790) s m args below meth c H locs (465) (2790) (zMQ below g (0, 398, zX) ad (zPi (fun k M' F' => k = zne V x1 3 x0 ∧ zLw t many V U M' F')) args s 465 2790) (F0 m 75 ls []) := by
      intro k17 hk17 bs M9017 F9017 hL9017 hb1 hb17 hx17 H locs ls Wd hl
      refine z_iload C0 hl 4 rfl dL_nearest_75 ?_
      refine W.widen (k := 465) (n := 2790) (by omega) (by omega) ?_
      exact z_iret C0 Wd hret hlk (zR_mk (by omega) (by omega)) ⟨hx17, hL9017⟩ dL_nearest_77
    have lp17 : ∀ (d17 k17 : Nat) (hk17 : (k17 : Int) + d17 = V 0) (bs : Int) (M9017 F9017 : zMem) (hL9017 : zLw t many V U M9017 F9017) (hb1 : 0 ≤ bs ∧ bs ≤ 999) (hb17 : bs = zfold (zne1 V x0 (zne V x1 2)) k17 (zne V x1 0 x0)) (H : Heap) (locs : List Loc) (ls : Array Slot) (Wd : zW g (zA (0, 398, zX) ad s.heap.size) s.heap (0, 398, zX) ad M9017 F9017 H locs) (hl : lv_has ls 7 [(0, .ref (ad 0)), (1, .int (zI x0)), (2, .int (zI x1)), (3, .int (zI 3)), (4, .int (zI bs)), (5, .int (zI (k17 : Int)))]), W p l e (zrm 13 465 2790) s m args below meth c H locs (93 * k17 + 0) (558 * k17 + 0) (zMQ below g (0, 398, zX) ad (zPi (fun k M' F' => k = zne V x1 3 x0 ∧ zLw t many V U M' F')) args s 465 2790) (F0 m 17 ls []) := by
      intro d17
      induction d17 with
      | zero =>
        intro k17 hk17 bs M9017 F9017 hL9017 hb1 hb17 H locs ls Wd hl
        refine z_iload C0 hl 5 rfl dL_nearest_17 ?_
        refine z_aload_n C0 hl 0 rfl dL_nearest_19 ?_
        refine z_invVi (As := []) (rest := [.int (zI (k17 : Int))]) C0 Wd (hv_chamberCount l g zX ad M9017 F9017 hL9017) kv_X11_chamberCount zN0 (zE_8 zK0) rfl zk_773 rfl hl.1 rfl (Nat.le_of_ble_eq_true rfl) (by decide) ⟨by show _ ≤ 465; omega, by show _ ≤ 2790; omega⟩ dL_nearest_20 (fun k1 M1 F1 H locs hr1 hp1 Wd => ?_)
        obtain ⟨rfl, hQ1⟩ := hp1
        have hL1 := hQ1.1
        refine z_icmp_ge C0 (tgt := 75) (zR_mk (by omega) (by omega)) hr1 dL_nearest_23 (by decide) (fun c2 => ?_) (fun c2 => ?_)
        · skip
          refine W.widen (k := (465)) (n := (2790)) (by omega) (by omega) ?_
          exact aft17 k17 (by omega) bs M1 F1 hL1 (by first | assumption | omega) (by first | assumption | omega) (zne_stop (by omega) hb17 (by first | exact Or.inl (by omega) | exact Or.inr (by omega))) _ _ _ Wd (lv_sub hl [0, 1, 2, 3, 4, 5] rfl)
        · skip
          refine z_iload_n C0 hl 3 rfl dL_nearest_26 ?_
          refine z_if_le C0 (tgt := 75) (zR_mk (by decide) (by decide)) dL_nearest_27 (by decide) (fun h => absurd h (by decide)) (fun _ => ?_)
          refine z_iload C0 hl 4 rfl dL_nearest_30 ?_
          refine z_if_le C0 (tgt := 75) (zR_mk (by omega) (by omega)) dL_nearest_32 (by decide) (fun c4 => ?_) (fun c4 => ?_)
          · skip
            refine W.widen (k := (465)) (n := (2790)) (by omega) (by omega) ?_
            exact aft17 k17 (by omega) bs M1 F1 hL1 (by first | assumption | omega) (by first | assumption | omega) (zne_stop (by omega) hb17 (by first | exact Or.inl (by omega) | exact Or.inr (by omega))) _ _ _ Wd (lv_sub hl [0, 1, 2, 3, 4, 5] rfl)
          · skip
            exfalso; omega
      | succ d17 ih17 =>
        intro k17 hk17 bs M9017 F9017 hL9017 hb1 hb17 H locs ls Wd hl
        refine z_iload C0 hl 5 rfl dL_nearest_17 ?_
        refine z_aload_n C0 hl 0 rfl dL_nearest_19 ?_
        refine z_invVi (As := []) (rest := [.int (zI (k17 : Int))]) C0 Wd (hv_chamberCount l g zX ad M9017 F9017 hL9017) kv_X11_chamberCount zN0 (zE_8 zK0) rfl zk_773 rfl hl.1 rfl (Nat.le_of_ble_eq_true rfl) (by decide) ⟨by show _ ≤ 465; omega, by show _ ≤ 2790; omega⟩ dL_nearest_20 (fun k5 M5 F5 H locs hr5 hp5 Wd => ?_)
        obtain ⟨rfl, hQ5⟩ := hp5
        have hL5 := hQ5.1
        refine z_icmp_ge C0 (tgt := 75) (zR_mk (by omega) (by omega)) hr5 dL_nearest_23 (by decide) (fun c6 => ?_) (fun c6 => ?_)
        · skip
          refine W.widen (k := (465)) (n := (2790)) (by omega) (by omega) ?_
          exact aft17 k17 (by omega) bs M5 F5 hL5 (by first | assumption | omega) (by first | assumption | omega) (zne_stop (by omega) hb17 (by first | exact Or.inl (by omega) | exact Or.inr (by omega))) _ _ _ Wd (lv_sub hl [0, 1, 2, 3, 4, 5] rfl)
        · skip
          refine z_iload_n C0 hl 3 rfl dL_nearest_26 ?_
          refine z_if_le C0 (tgt := 75) (zR_mk (by decide) (by decide)) dL_nearest_27 (by decide) (fun h => absurd h (by decide)) (fun _ => ?_)
          refine z_iload C0 hl 4 rfl dL_nearest_30 ?_
          refine z_if_le C0 (tgt := 75) (zR_mk (by omega) (by omega)) dL_nearest_32 (by decide) (fun c8 => ?_) (fun c8 => ?_)
          · skip
            refine W.widen (k := (465)) (n := (2790)) (by omega) (by omega) ?_
            exact aft17 k17 (by omega) bs M5 F5 hL5 (by first | assumption | omega) (by first | assumption | omega) (zne_stop (by omega) hb17 (by first | exact Or.inl (by omega) | exact Or.inr (by omega))) _ _ _ Wd (lv_sub hl [0, 1, 2, 3, 4, 5] rfl)
          · skip
            refine z_aload_n C0 hl 0 rfl dL_nearest_35 ?_
            refine z_iload_n C0 hl 1 rfl dL_nearest_36 ?_
            refine z_iload C0 hl 5 rfl dL_nearest_37 ?_
            refine z_invSH (As := [.ref (ad 0), .int (zI x0), .int (zI (k17 : Int))]) (rest := []) C0 Wd hst (hq_delayOf l g zX ad M5 F5 hL5 x0 hx0 (k17 : Int) (zR_mk (by omega) (by omega)) ) hs_delayOf zk_777 rfl hl.1 rfl (Nat.le_of_ble_eq_true rfl) (by decide) ⟨by show _ ≤ 465; omega, by show _ ≤ 2790; omega⟩ dL_nearest_39 (fun k9 M9 F9 H locs hr9 hp9 Wd => ?_)
            obtain ⟨rfl, hQ9⟩ := hp9
            have hL9 := hQ9.1
            refine z_istore C0 hl [(6, .int (zI (qDl V x0 (k17 : Int)))), (0, .ref (ad 0)), (1, .int (zI x0)), (2, .int (zI x1)), (3, .int (zI 3)), (4, .int (zI bs)), (5, .int (zI (k17 : Int)))] (by decide) rfl dL_nearest_42 (fun ls hl => ?_)
            refine z_iload C0 hl 0 rfl dL_nearest_44 ?_
            refine z_if_le C0 (tgt := 69) hr9 dL_nearest_46 (by decide) (fun c10 => ?_) (fun c10 => ?_)
            · skip
              refine z_iinc C0 hl 6 (t := (k17 : Int)) (u := ((k17 : Int) + 1)) rfl (by omega) [(5, .int (zI ((k17 : Int) + 1))), (6, .int (zI (qDl V x0 (k17 : Int)))), (0, .ref (ad 0)), (1, .int (zI x0)), (2, .int (zI x1)), (3, .int (zI 3)), (4, .int (zI bs))] (by decide) rfl dL_nearest_69 (fun ls hl => ?_)
              refine z_goto C0 (tgt := 17) dL_nearest_72 (by decide) ?_
              refine W.widen (k := (93 * (k17 + 1) + 0)) (n := (558 * (k17 + 1) + 0)) (by omega) (by omega) ?_
              exact ih17 (k17 + 1) (by omega) bs M9 F9 hL9 hb1 (zne_st0 hL ⟨h0, ⟨by omega, by omega⟩⟩ (by omega) hb17) _ _ _ Wd (lv_sub hl [2, 3, 4, 5, 6, 0] rfl)
            · skip
              refine z_iload C0 hl 5 rfl dL_nearest_49 ?_
              refine z_iload C0 hl 0 rfl dL_nearest_51 ?_
              refine z_aload_n C0 hl 1 rfl dL_nearest_53 ?_
              refine z_iload C0 hl 6 rfl dL_nearest_54 ?_
              refine z_iload_n C0 hl 3 rfl dL_nearest_56 ?_
              refine z_iload_n C0 hl 4 rfl dL_nearest_57 ?_
              refine z_iconst C0 dL_nearest_58 ?_
              refine z_isub C0 dL_nearest_59 ?_
              refine z_top (congrArg zI (show (3 - 1 : Int) = 2 by decide)) ?_
              refine z_invSi (As := [.ref (ad 0), .int (zI (k17 : Int)), .int (zI x1), .int (zI 2)]) (rest := [.int (zI (qDl V x0 (k17 : Int))), .int (zI bs)]) C0 Wd (lw_nearest_2 l g zX ad M9 F9 hL9 h5 (k17 : Int) (zR_mk (by omega) (by omega)) x1 hx1 ⟨by omega, by omega⟩ h1 hst) ks_L_nearest zk_805 rfl hl.1 rfl (Nat.le_of_ble_eq_true rfl) (by decide) ⟨by show _ ≤ 465; omega, by show _ ≤ 2790; omega⟩ dL_nearest_60 (fun k11 M11 F11 H locs hr11 hp11 Wd => ?_)
              obtain ⟨rfl, hL11⟩ := hp11
              refine z_iadd C0 dL_nearest_63 ?_
              have hz1 := zne_bd (V := V) (b := x1) 2 (k17 : Int)
              have hz2 := qDl_9 hL (a := x0) (b := (k17 : Int)) ⟨h0, by omega, by omega⟩
              refine z_invSi (As := [.int (zI bs), .int (zI ((qDl V x0 (k17 : Int)) + (zne V x1 2 (k17 : Int))))]) (rest := []) C0 Wd (ct_J9_min_7cf53 l g (0, 398, zX) zN396 zN397 ad M11 F11 bs (zR_mk (by omega) (by omega)) ((qDl V x0 (k17 : Int)) + (zne V x1 2 (k17 : Int))) (by have q0 := hr11.1; have p0 := hr11.2; have q1 := hr9.1; have p1 := hr9.2; exact zR_mk (by omega) (by omega))) kv_J9_min_7cf53 zk_808 rfl hl.1 rfl (Nat.le_of_ble_eq_true rfl) (by decide) ⟨by show _ ≤ 465; omega, by show _ ≤ 2790; omega⟩ dL_nearest_64 (fun k12 M12 F12 H locs hr12 hp12 Wd => ?_)
              obtain ⟨rfl, rfl, rfl⟩ := hp12
              refine z_istore C0 hl [(4, .int (zI (if bs ≤ ((qDl V x0 (k17 : Int)) + (zne V x1 2 (k17 : Int))) then bs else ((qDl V x0 (k17 : Int)) + (zne V x1 2 (k17 : Int)))))), (6, .int (zI (qDl V x0 (k17 : Int)))), (0, .ref (ad 0)), (1, .int (zI x0)), (2, .int (zI x1)), (3, .int (zI 3)), (5, .int (zI (k17 : Int)))] (by decide) rfl dL_nearest_67 (fun ls hl => ?_)
              refine z_iinc C0 hl 6 (t := (k17 : Int)) (u := ((k17 : Int) + 1)) rfl (by omega) [(5, .int (zI ((k17 : Int) + 1))), (4, .int (zI (if bs ≤ ((qDl V x0 (k17 : Int)) + (zne V x1 2 (k17 : Int))) then bs else ((qDl V x0 (k17 : Int)) + (zne V x1 2 (k17 : Int)))))), (6, .int (zI (qDl V x0 (k17 : Int)))), (0, .ref (ad 0)), (1, .int (zI x0)), (2, .int (zI x1)), (3, .int (zI 3))] (by decide) rfl dL_nearest_69 (fun ls hl => ?_)
              refine z_goto C0 (tgt := 17) dL_nearest_72 (by decide) ?_
              refine W.widen (k := (93 * (k17 + 1) + 0)) (n := (558 * (k17 + 1) + 0)) (by omega) (by omega) ?_
              exact ih17 (k17 + 1) (by omega) (if bs ≤ ((qDl V x0 (k17 : Int)) + (zne V x1 2 (k17 : Int))) then bs else ((qDl V x0 (k17 : Int)) + (zne V x1 2 (k17 : Int)))) M11 F11 hL11 (by split <;> omega) (zne_st1 ⟨h0, ⟨by omega, by omega⟩⟩ (by omega) (by omega) hb17 rfl) _ _ _ Wd (lv_sub hl [3, 4, 5, 6, 1, 0] rfl)
    refine W.widen (k := (93 * 0 + 0)) (n := (558 * 0 + 0)) (by omega) (by omega) ?_
    exact lp17 (V 0).toNat 0 (by omega) (zne V x1 0 x0) M8012 F8012 hL8012 (zne_bd 0 x0) rfl _ _ _ Wd (lv_sub hl [2, 3, 4, 5, 1, 0] rfl)
  refine z_iload_n C0 hl 1 rfl dL_nearest_0 ?_
  refine z_iload_n C0 hl 2 rfl dL_nearest_1 ?_
  refine z_icmp_ne C0 (tgt := 9) hx0 hx1 dL_nearest_2 (by decide) (fun c13 => ?_) (fun c13 => ?_)
  · skip
    refine z_sipush C0 dL_nearest_9 (by decide) ?_
    refine z_top (congrArg zI (show 999 = (zne V x1 0 x0) from (if_neg c13).symm)) ?_
    refine W.widen (k := (0)) (n := (0)) (by omega) (by omega) ?_
    exact jn12  M F hL  _ _ _ Wd (lv_sub hl [0, 1, 2, 3] rfl)
  · skip
    refine z_iconst C0 dL_nearest_5 ?_
    refine z_goto C0 (tgt := 12) dL_nearest_6 (by decide) ?_
    refine z_top (congrArg zI (show 0 = (zne V x1 0 x0) from (if_pos c13).symm)) ?_
    refine W.widen (k := (0)) (n := (0)) (by omega) (by omega) ?_
    exact jn12  M F hL  _ _ _ Wd (lv_sub hl [0, 1, 2, 3] rfl)
set_option maxHeartbeats 4000000 in
set_option maxRecDepth 100000 in
theorem lw_nearest_4 (l : Launch) (g : zG) (zX : va_W) (ad : Int → Nat) (M F : zMem) {t many : Int} {V : Int → Int} {U : Int → Int → Int} (hL : zLw t many V U M F) (h5 : V 0 ≤ 5) (x0 : Int) (hx0 : zR x0) (x1 : Int) (hx1 : zR x1) (h0 : zisC V x0) (h1 : zisC V x1) (hst : l.stackTraces = false) : zMt l yL_nearest cL_nearest 7 (some .int) 14 2340 14040 g (0, 398, zX) ad [.ref (ad 0), .int (zI x0), .int (zI x1), .int (zI 4)] M F (zPi (fun k M' F' => k = zne V x1 4 x0 ∧ zLw t many V U M' F')) := by
  refine zMt.of "DrumWarrenLaw" rfl (by decide +kernel) (Nat.le_of_ble_eq_true rfl) (fun {p e s m args below meth c ls} C0 Wd hl hret hlk hin => ?_)
  have hl : lv_has ls 7 [(0, .ref (ad 0)), (1, .int (zI x0)), (2, .int (zI x1)), (3, .int (zI 4))] := hl
  have hv0 := hL.v0
  have h00 := h0.1
  have h01 := h0.2
  have h10 := h1.1
  have h11 := h1.2
  have jn12 : ∀ (M8012 F8012 : zMem) (hL8012 : zLw t many V U M8012 F8012) (H : Heap) (locs : List Loc) (ls : Array Slot) (Wd : zW g (zA (0, 398, zX) ad s.heap.size) s.heap (0, 398, zX) ad M8012 F8012 H locs) (hl : lv_has ls 7 [(0, .ref (ad 0)), (1, .int (zI x0)), (2, .int (zI x1)), (3, .int (zI 4))]), W p l e (zrm 14 2340 14040) s m args below meth c H locs (0) (0) (zMQ below g (0, 398, zX) ad (zPi (fun k M' F' => k = zne V x1 4 x0 ∧ zLw t many V U M' F')) args s 2340 14040) (F0 m 12 ls [.int (zI (zne V x1 0 x0))]) := by
    intro M8012 F8012 hL8012 H locs ls Wd hl
    refine z_istore C0 hl [(4, .int (zI (zne V x1 0 x0))), (0, .ref (ad 0)), (1, .int (zI x0)), (2, .int (zI x1)), (3, .int (zI 4))] (by decide) rfl dL_nearest_12 (fun ls hl => ?_)
    refine z_iconst C0 dL_nearest_14 ?_
    refine z_istore C0 hl [(5, .int (zI 0)), (4, .int (zI (zne V x1 0 x0))), (0, .ref (ad 0)), (1, .int (zI x0)), (2, .int (zI x1)), (3, .int (zI 4))] (by decide) rfl dL_nearest_15 (fun ls hl => ?_)
    have hb17 : V 0 ≤ 5 := by omega
    have aft17 : ∀ (k17 : Nat) (hk17 : (k17 : Int) ≤ V 0) (bs : Int) (M9017 F9017 : zMem) (hL9017 : zLw t many V U M9017 F9017) (hb1 : 0 ≤ bs ∧ bs ≤ 999) (hb17 : bs = zfold (zne1 V x0 (zne V x1 3)) k17 (zne V x1 0 x0)) (hx17 : bs = zne V x1 4 x0) (H : Heap) (locs : List Loc) (ls : Array Slot) (Wd : zW g (zA (0, 398, zX) ad s.heap.size) s.heap (0, 398, zX) ad M9017 F9017 H locs) (hl : lv_has ls 7 [(0, .ref (ad 0)), (1, .int (zI x0)), (2, .int (zI x1)), (3, .int (zI 4)), (4, .int (zI bs)), (5, .int (zI (k17 : Int)))]), W p l e (zrm 14 2340 14040) s m args below meth c H locs (2340) (14040) (zMQ below g (0, 398, zX) ad (zPi (fun k M' F' => k = zne V x1 4 x0 ∧ zLw t many V U M' F')) args s 2340 14040) (F0 m 75 ls []) := by
      intro k17 hk17 bs M9017 F9017 hL9017 hb1 hb17 hx17 H locs ls Wd hl
      refine z_iload C0 hl 4 rfl dL_nearest_75 ?_
      refine W.widen (k := 2340) (n := 14040) (by omega) (by omega) ?_
      exact z_iret C0 Wd hret hlk (zR_mk (by omega) (by omega)) ⟨hx17, hL9017⟩ dL_nearest_77
    have lp17 : ∀ (d17 k17 : Nat) (hk17 : (k17 : Int) + d17 = V 0) (bs : Int) (M9017 F9017 : zMem) (hL9017 : zLw t many V U M9017 F9017) (hb1 : 0 ≤ bs ∧ bs ≤ 999) (hb17 : bs = zfold (zne1 V x0 (zne V x1 3)) k17 (zne V x1 0 x0)) (H : Heap) (locs : List Loc) (ls : Array Slot) (Wd : zW g (zA (0, 398, zX) ad s.heap.size) s.heap (0, 398, zX) ad M9017 F9017 H locs) (hl : lv_has ls 7 [(0, .ref (ad 0)), (1, .int (zI x0)), (2, .int (zI x1)), (3, .int (zI 4)), (4, .int (zI bs)), (5, .int (zI (k17 : Int)))]), W p l e (zrm 14 2340 14040) s m args below meth c H locs (468 * k17 + 0) (2808 * k17 + 0) (zMQ below g (0, 398, zX) ad (zPi (fun k M' F' => k = zne V x1 4 x0 ∧ zLw t many V U M' F')) args s 2340 14040) (F0 m 17 ls []) := by
      intro d17
      induction d17 with
      | zero =>
        intro k17 hk17 bs M9017 F9017 hL9017 hb1 hb17 H locs ls Wd hl
        refine z_iload C0 hl 5 rfl dL_nearest_17 ?_
        refine z_aload_n C0 hl 0 rfl dL_nearest_19 ?_
        refine z_invVi (As := []) (rest := [.int (zI (k17 : Int))]) C0 Wd (hv_chamberCount l g zX ad M9017 F9017 hL9017) kv_X11_chamberCount zN0 (zE_8 zK0) rfl zk_773 rfl hl.1 rfl (Nat.le_of_ble_eq_true rfl) (by decide) ⟨by show _ ≤ 2340; omega, by show _ ≤ 14040; omega⟩ dL_nearest_20 (fun k1 M1 F1 H locs hr1 hp1 Wd => ?_)
        obtain ⟨rfl, hQ1⟩ := hp1
        have hL1 := hQ1.1
        refine z_icmp_ge C0 (tgt := 75) (zR_mk (by omega) (by omega)) hr1 dL_nearest_23 (by decide) (fun c2 => ?_) (fun c2 => ?_)
        · skip
          refine W.widen (k := (2340)) (n := (14040)) (by omega) (by omega) ?_
          exact aft17 k17 (by omega) bs M1 F1 hL1 (by first | assumption | omega) (by first | assumption | omega) (zne_stop (by omega) hb17 (by first | exact Or.inl (by omega) | exact Or.inr (by omega))) _ _ _ Wd (lv_sub hl [0, 1, 2, 3, 4, 5] rfl)
        · skip
          refine z_iload_n C0 hl 3 rfl dL_nearest_26 ?_
          refine z_if_le C0 (tgt := 75) (zR_mk (by decide) (by decide)) dL_nearest_27 (by decide) (fun h => absurd h (by decide)) (fun _ => ?_)
          refine z_iload C0 hl 4 rfl dL_nearest_30 ?_
          refine z_if_le C0 (tgt := 75) (zR_mk (by omega) (by omega)) dL_nearest_32 (by decide) (fun c4 => ?_) (fun c4 => ?_)
          · skip
            refine W.widen (k := (2340)) (n := (14040)) (by omega) (by omega) ?_
            exact aft17 k17 (by omega) bs M1 F1 hL1 (by first | assumption | omega) (by first | assumption | omega) (zne_stop (by omega) hb17 (by first | exact Or.inl (by omega) | exact Or.inr (by omega))) _ _ _ Wd (lv_sub hl [0, 1, 2, 3, 4, 5] rfl)
          · skip
            exfalso; omega
      | succ d17 ih17 =>
        intro k17 hk17 bs M9017 F9017 hL9017 hb1 hb17 H locs ls Wd hl
        refine z_iload C0 hl 5 rfl dL_nearest_17 ?_
        refine z_aload_n C0 hl 0 rfl dL_nearest_19 ?_
        refine z_invVi (As := []) (rest := [.int (zI (k17 : Int))]) C0 Wd (hv_chamberCount l g zX ad M9017 F9017 hL9017) kv_X11_chamberCount zN0 (zE_8 zK0) rfl zk_773 rfl hl.1 rfl (Nat.le_of_ble_eq_true rfl) (by decide) ⟨by show _ ≤ 2340; omega, by show _ ≤ 14040; omega⟩ dL_nearest_20 (fun k5 M5 F5 H locs hr5 hp5 Wd => ?_)
        obtain ⟨rfl, hQ5⟩ := hp5
        have hL5 := hQ5.1
        refine z_icmp_ge C0 (tgt := 75) (zR_mk (by omega) (by omega)) hr5 dL_nearest_23 (by decide) (fun c6 => ?_) (fun c6 => ?_)
        · skip
          refine W.widen (k := (2340)) (n := (14040)) (by omega) (by omega) ?_
          exact aft17 k17 (by omega) bs M5 F5 hL5 (by first | assumption | omega) (by first | assumption | omega) (zne_stop (by omega) hb17 (by first | exact Or.inl (by omega) | exact Or.inr (by omega))) _ _ _ Wd (lv_sub hl [0, 1, 2, 3, 4, 5] rfl)
        · skip
          refine z_iload_n C0 hl 3 rfl dL_nearest_26 ?_
          refine z_if_le C0 (tgt := 75) (zR_mk (by decide) (by decide)) dL_nearest_27 (by decide) (fun h => absurd h (by decide)) (fun _ => ?_)
          refine z_iload C0 hl 4 rfl dL_nearest_30 ?_
          refine z_if_le C0 (tgt := 75) (zR_mk (by omega) (by omega)) dL_nearest_32 (by decide) (fun c8 => ?_) (fun c8 => ?_)
          · skip
            refine W.widen (k := (2340)) (n := (14040)) (by omega) (by omega) ?_
            exact aft17 k17 (by omega) bs M5 F5 hL5 (by first | assumption | omega) (by first | assumption | omega) (zne_stop (by omega) hb17 (by first | exact Or.inl (by omega) | exact Or.inr (by omega))) _ _ _ Wd (lv_sub hl [0, 1, 2, 3, 4, 5] rfl)
          · skip
            refine z_aload_n C0 hl 0 rfl dL_nearest_35 ?_
            refine z_iload_n C0 hl 1 rfl dL_nearest_36 ?_
            refine z_iload C0 hl 5 rfl dL_nearest_37 ?_
            refine z_invSH (As := [.ref (ad 0), .int (zI x0), .int (zI (k17 : Int))]) (rest := []) C0 Wd hst (hq_delayOf l g zX ad M5 F5 hL5 x0 hx0 (k17 : Int) (zR_mk (by omega) (by omega)) ) hs_delayOf zk_777 rfl hl.1 rfl (Nat.le_of_ble_eq_true rfl) (by decide) ⟨by show _ ≤ 2340; omega, by show _ ≤ 14040; omega⟩ dL_nearest_39 (fun k9 M9 F9 H locs hr9 hp9 Wd => ?_)
            obtain ⟨rfl, hQ9⟩ := hp9
            have hL9 := hQ9.1
            refine z_istore C0 hl [(6, .int (zI (qDl V x0 (k17 : Int)))), (0, .ref (ad 0)), (1, .int (zI x0)), (2, .int (zI x1)), (3, .int (zI 4)), (4, .int (zI bs)), (5, .int (zI (k17 : Int)))] (by decide) rfl dL_nearest_42 (fun ls hl => ?_)
            refine z_iload C0 hl 0 rfl dL_nearest_44 ?_
            refine z_if_le C0 (tgt := 69) hr9 dL_nearest_46 (by decide) (fun c10 => ?_) (fun c10 => ?_)
            · skip
              refine z_iinc C0 hl 6 (t := (k17 : Int)) (u := ((k17 : Int) + 1)) rfl (by omega) [(5, .int (zI ((k17 : Int) + 1))), (6, .int (zI (qDl V x0 (k17 : Int)))), (0, .ref (ad 0)), (1, .int (zI x0)), (2, .int (zI x1)), (3, .int (zI 4)), (4, .int (zI bs))] (by decide) rfl dL_nearest_69 (fun ls hl => ?_)
              refine z_goto C0 (tgt := 17) dL_nearest_72 (by decide) ?_
              refine W.widen (k := (468 * (k17 + 1) + 0)) (n := (2808 * (k17 + 1) + 0)) (by omega) (by omega) ?_
              exact ih17 (k17 + 1) (by omega) bs M9 F9 hL9 hb1 (zne_st0 hL ⟨h0, ⟨by omega, by omega⟩⟩ (by omega) hb17) _ _ _ Wd (lv_sub hl [2, 3, 4, 5, 6, 0] rfl)
            · skip
              refine z_iload C0 hl 5 rfl dL_nearest_49 ?_
              refine z_iload C0 hl 0 rfl dL_nearest_51 ?_
              refine z_aload_n C0 hl 1 rfl dL_nearest_53 ?_
              refine z_iload C0 hl 6 rfl dL_nearest_54 ?_
              refine z_iload_n C0 hl 3 rfl dL_nearest_56 ?_
              refine z_iload_n C0 hl 4 rfl dL_nearest_57 ?_
              refine z_iconst C0 dL_nearest_58 ?_
              refine z_isub C0 dL_nearest_59 ?_
              refine z_top (congrArg zI (show (4 - 1 : Int) = 3 by decide)) ?_
              refine z_invSi (As := [.ref (ad 0), .int (zI (k17 : Int)), .int (zI x1), .int (zI 3)]) (rest := [.int (zI (qDl V x0 (k17 : Int))), .int (zI bs)]) C0 Wd (lw_nearest_3 l g zX ad M9 F9 hL9 h5 (k17 : Int) (zR_mk (by omega) (by omega)) x1 hx1 ⟨by omega, by omega⟩ h1 hst) ks_L_nearest zk_805 rfl hl.1 rfl (Nat.le_of_ble_eq_true rfl) (by decide) ⟨by show _ ≤ 2340; omega, by show _ ≤ 14040; omega⟩ dL_nearest_60 (fun k11 M11 F11 H locs hr11 hp11 Wd => ?_)
              obtain ⟨rfl, hL11⟩ := hp11
              refine z_iadd C0 dL_nearest_63 ?_
              have hz1 := zne_bd (V := V) (b := x1) 3 (k17 : Int)
              have hz2 := qDl_9 hL (a := x0) (b := (k17 : Int)) ⟨h0, by omega, by omega⟩
              refine z_invSi (As := [.int (zI bs), .int (zI ((qDl V x0 (k17 : Int)) + (zne V x1 3 (k17 : Int))))]) (rest := []) C0 Wd (ct_J9_min_7cf53 l g (0, 398, zX) zN396 zN397 ad M11 F11 bs (zR_mk (by omega) (by omega)) ((qDl V x0 (k17 : Int)) + (zne V x1 3 (k17 : Int))) (by have q0 := hr11.1; have p0 := hr11.2; have q1 := hr9.1; have p1 := hr9.2; exact zR_mk (by omega) (by omega))) kv_J9_min_7cf53 zk_808 rfl hl.1 rfl (Nat.le_of_ble_eq_true rfl) (by decide) ⟨by show _ ≤ 2340; omega, by show _ ≤ 14040; omega⟩ dL_nearest_64 (fun k12 M12 F12 H locs hr12 hp12 Wd => ?_)
              obtain ⟨rfl, rfl, rfl⟩ := hp12
              refine z_istore C0 hl [(4, .int (zI (if bs ≤ ((qDl V x0 (k17 : Int)) + (zne V x1 3 (k17 : Int))) then bs else ((qDl V x0 (k17 : Int)) + (zne V x1 3 (k17 : Int)))))), (6, .int (zI (qDl V x0 (k17 : Int)))), (0, .ref (ad 0)), (1, .int (zI x0)), (2, .int (zI x1)), (3, .int (zI 4)), (5, .int (zI (k17 : Int)))] (by decide) rfl dL_nearest_67 (fun ls hl => ?_)
              refine z_iinc C0 hl 6 (t := (k17 : Int)) (u := ((k17 : Int) + 1)) rfl (by omega) [(5, .int (zI ((k17 : Int) + 1))), (4, .int (zI (if bs ≤ ((qDl V x0 (k17 : Int)) + (zne V x1 3 (k17 : Int))) then bs else ((qDl V x0 (k17 : Int)) + (zne V x1 3 (k17 : Int)))))), (6, .int (zI (qDl V x0 (k17 : Int)))), (0, .ref (ad 0)), (1, .int (zI x0)), (2, .int (zI x1)), (3, .int (zI 4))] (by decide) rfl dL_nearest_69 (fun ls hl => ?_)
              refine z_goto C0 (tgt := 17) dL_nearest_72 (by decide) ?_
              refine W.widen (k := (468 * (k17 + 1) + 0)) (n := (2808 * (k17 + 1) + 0)) (by omega) (by omega) ?_
              exact ih17 (k17 + 1) (by omega) (if bs ≤ ((qDl V x0 (k17 : Int)) + (zne V x1 3 (k17 : Int))) then bs else ((qDl V x0 (k17 : Int)) + (zne V x1 3 (k17 : Int)))) M11 F11 hL11 (by split <;> omega) (zne_st1 ⟨h0, ⟨by omega, by omega⟩⟩ (by omega) (by omega) hb17 rfl) _ _ _ Wd (lv_sub hl [3, 4, 5, 6, 1, 0] rfl)
    refine W.widen (k := (468 * 0 + 0)) (n := (2808 * 0 + 0)) (by omega) (by omega) ?_
    exact lp17 (V 0).toNat 0 (by omega) (zne V x1 0 x0) M8012 F8012 hL8012 (zne_bd 0 x0) rfl _ _ _ Wd (lv_sub hl [2, 3, 4, 5, 1, 0] rfl)
  refine z_iload_n C0 hl 1 rfl dL_nearest_0 ?_
  refine z_iload_n C0 hl 2 rfl dL_nearest_1 ?_
  refine z_icmp_ne C0 (tgt := 9) hx0 hx1 dL_nearest_2 (by decide) (fun c13 => ?_) (fun c13 => ?_)
  · skip
    refine z_sipush C0 dL_nearest_9 (by decide) ?_
    refine z_top (congrArg zI (show 999 = (zne V x1 0 x0) from (if_neg c13).symm)) ?_
    refine W.widen (k := (0)) (n := (0)) (by omega) (by omega) ?_
    exact jn12  M F hL  _ _ _ Wd (lv_sub hl [0, 1, 2, 3] rfl)
  · skip
    refine z_iconst C0 dL_nearest_5 ?_
    refine z_goto C0 (tgt := 12) dL_nearest_6 (by decide) ?_
    refine z_top (congrArg zI (show 0 = (zne V x1 0 x0) from (if_pos c13).symm)) ?_
    refine W.widen (k := (0)) (n := (0)) (by omega) (by omega) ?_
    exact jn12  M F hL  _ _ _ Wd (lv_sub hl [0, 1, 2, 3] rfl)
