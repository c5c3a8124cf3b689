/-! the hares -/
section QV
variable {t many : Int} {V : Int → Int} {U : Int → Int → Int} {M F : zMem}
theorem qMa_in {p : Int} (h : 0 ≤ p ∧ p < V 2) : qMa V p = V (96 + 47 * p + 0) := if_pos h
theorem qMa_out {p : Int} (h : ¬ (0 ≤ p ∧ p < V 2)) : qMa V p = -11 := if_neg h
theorem qMs_at (hL : zLw t many V U M F) {w p : Int} (h : 0 ≤ p ∧ p < V 2) : qMs V w (V (96 + 47 * p + 0)) = V (96 + 47 * p + w) := by
  unfold qMs
  rw [zpl_at hL.id h, if_pos (by omega)]
theorem qHr_in {w h : Int} (hh : zisH V h) : qHr V w h = V (72 + 4 * h + w) := if_pos hh
theorem qHr_out {w h : Int} (hh : ¬ zisH V h) : qHr V w h = -11 := if_neg hh
theorem qDr_in {h : Int} (hh : zisH V h) : qDr V h = zb (zdrm V h) := if_pos hh
theorem qDr_out {h : Int} (hh : ¬ zisH V h) : qDr V h = -11 := if_neg hh
theorem qLa_out {h : Int} (hh : ¬ zisH V h) : qLa V h = -11 := if_neg hh
theorem qLa_sg (hL : zLw t many V U M F) {h : Int} (hh : zisH V h) : (0 ≤ qLa V h ↔ 0 < V (72 + 4 * h + 2)) ∧ -13 ≤ qLa V h ∧ qLa V h ≤ 15 := by
  obtain ⟨a1, a2, a3, a4⟩ := hL.iv.2.2.2.2.2.1 h hh.1 hh.2
  have hl := hL.la h hh.1 hh.2
  unfold qLa
  rw [if_pos hh]
  by_cases e : 0 < V (72 + 4 * h + 2)
  · rw [if_pos e]
    omega
  · rw [if_neg e]
    omega
theorem zSr_bd (hL : zLw t many V U M F) : ∀ n : Nat, (n : Int) ≤ V 1 → 0 ≤ zSr V n ∧ zSr V n ≤ n * t
  | 0, _ => ⟨Int.le_refl 0, by show (0 : Int) ≤ 0 * t; omega⟩
  | n + 1, hn => by
    have ih := zSr_bd hL n (by omega)
    have h3 := (hL.iv.2.2.2.2.2.1 (n : Int) (by omega) (by omega)).2.2.1
    show 0 ≤ zSr V n + V (72 + 4 * (n : Int) + 2) ∧ zSr V n + V (72 + 4 * (n : Int) + 2) ≤ ((n + 1 : Nat) : Int) * t
    rw [show ((n + 1 : Nat) : Int) * t = (n : Int) * t + t by rw [Int.natCast_add, Int.add_mul]; omega]
    omega
theorem zSr_b6 (hL : zLw t many V U M F) (ht : t ≤ 100000) (n : Nat) (hn : (n : Int) ≤ V 1) : 0 ≤ zSr V n ∧ zSr V n ≤ 600000 := by
  have h := zSr_bd hL n hn
  have h6 := hL.v1.2
  have h7 : (n : Int) * t ≤ (n : Int) * 100000 := Int.mul_le_mul_of_nonneg_left ht (by omega)
  omega
theorem zby_no {x : Int} (hx : 0 ≤ x ∧ x < V 1) (h : ∀ q, 0 ≤ q → q < V 1 → zrnk V q ≠ x) : False := by
  obtain ⟨a, ha, he⟩ := zrnk_at hx
  exact h a ha.1 ha.2 he
theorem zrnk_inv {a b : Int} (ha : zisH V a) (hb : zisH V b) (h : zrnk V a < zrnk V b) : 0 < V (72 + 4 * a + 2) - V (72 + 4 * b + 2) ∨ (V (72 + 4 * a + 2) - V (72 + 4 * b + 2) = 0 ∧ a < b) := by
  apply Decidable.byContradiction
  intro q
  by_cases e : a = b
  · rw [e] at h; omega
  · have := zrnk_lt (a := b) (b := a) hb (by omega)
    omega
end QV
set_option maxHeartbeats 4000000 in
set_option maxRecDepth 100000 in
theorem lw_hares (l : Launch) (g : zG) (zX : va_W) (ad : Int → Nat) (M F : zMem) {t many : Int} {V : Int → Int} {U : Int → Int → Int} (hL : zLw t many V U M F) (ht : t ≤ 100000) (hst : l.stackTraces = false) : zMt l yL_hares cL_hares 9 (some .boolean) 12 217 1302 g (0, 398, zX) ad [.ref (ad 0)] M F (zPi (fun k M' F' => k = 1 ∧ zLw t many V U M' F')) := by
  refine zMt.of "DrumWarrenLaw" rfl (by decide +kernel) (Nat.le_of_ble_eq_true rfl) (fun {p e s m args below meth c ls} C0 Wd hl hret hlk hin => ?_)
  have hl : lv_has ls 9 [(0, .ref (ad 0))] := hl
  have hv1 := hL.v1
  have hv2 := hL.v2
  have hv0 := hL.v0
  refine z_aload_n C0 hl 0 rfl dL_hares_0 ?_
  refine z_invVi (As := []) (rest := []) C0 Wd (hv_hareCount l g zX ad M F hL) kv_X11_hareCount zN0 (zE_8 zK0) rfl zk_867 rfl hl.1 rfl (Nat.le_of_ble_eq_true rfl) (by decide) ⟨by show _ ≤ 217; omega, by show _ ≤ 1302; omega⟩ dL_hares_1 (fun k1 M1 F1 H locs hr1 hp1 Wd => ?_)
  obtain ⟨rfl, hQ1⟩ := hp1
  have hL1 := hQ1.1
  refine z_istore_n C0 hl [(1, .int (zI (V 1))), (0, .ref (ad 0))] (by decide) rfl dL_hares_4 (fun ls hl => ?_)
  refine z_iconst C0 dL_hares_5 ?_
  refine z_istore_n C0 hl [(2, .int (zI 0)), (1, .int (zI (V 1))), (0, .ref (ad 0))] (by decide) rfl dL_hares_6 (fun ls hl => ?_)
  refine z_iconst C0 dL_hares_7 ?_
  refine z_istore_n C0 hl [(3, .int (zI 0)), (2, .int (zI 0)), (1, .int (zI (V 1))), (0, .ref (ad 0))] (by decide) rfl dL_hares_8 (fun ls hl => ?_)
  have hb9 : V 1 ≤ 6 := by omega
  have aft9 : ∀ (k9 : Nat) (hk9 : (k9 : Int) ≤ V 1) (al : Int) (M9009 F9009 : zMem) (hL9009 : zLw t many V U M9009 F9009) (hal : al = zSr V k9) (hx9 : (k9 : Int) = V 1) (H : Heap) (locs : List Loc) (ls : Array Slot) (Wd : zW g (zA (0, 398, zX) ad s.heap.size) s.heap (0, 398, zX) ad M9009 F9009 H locs) (hl : lv_has ls 9 [(0, .ref (ad 0)), (1, .int (zI (V 1))), (2, .int (zI al)), (3, .int (zI (k9 : Int)))]), W p l e (zrm 12 217 1302) s m args below meth c H locs (210) (1260) (zMQ below g (0, 398, zX) ad (zPi (fun k M' F' => k = 1 ∧ zLw t many V U M' F')) args s 217 1302) (F0 m 240 ls []) := by
    intro k9 hk9 al M9009 F9009 hL9009 hal hx9 H locs ls Wd hl
    have hs9 := zSr_b6 hL ht k9 (by omega)
    have he9 : al = V 6 := by rw [hal, show k9 = (V 1).toNat by omega]; exact hL.nn.2.2.2
    replace hl : lv_has ls 9 [(0, .ref (ad 0)), (1, .int (zI (V 1))), (2, .int (zI al))] := lv_sub hl [0, 1, 2] rfl
    refine z_iload_n C0 hl 2 rfl dL_hares_240 ?_
    refine z_aload_n C0 hl 0 rfl dL_hares_241 ?_
    refine z_invVi (As := []) (rest := [.int (zI al)]) C0 Wd (hv_deliveries l g zX ad M9009 F9009 hL9009) kv_X11_deliveries zN0 (zE_8 zK0) rfl zk_963 rfl hl.1 rfl (Nat.le_of_ble_eq_true rfl) (by decide) ⟨by show _ ≤ 217; omega, by show _ ≤ 1302; omega⟩ dL_hares_242 (fun k2 M2 F2 H locs hr2 hp2 Wd => ?_)
    obtain ⟨rfl, hQ2⟩ := hp2
    have hL2 := hQ2.1
    refine z_icmp_ne C0 (tgt := 312) (by rw [hal]; have := zSr_b6 hL ht k9 (by omega); exact zR_mk (by omega) (by omega)) hr2 dL_hares_245 (by decide) (fun h9 => (by exfalso; omega)) (fun c3 => ?_)
    refine z_aload_n C0 hl 0 rfl dL_hares_248 ?_
    refine z_iload_n C0 hl 1 rfl dL_hares_249 ?_
    refine z_invSH (As := [.ref (ad 0), .int (zI (V 1))]) (rest := []) C0 Wd hst (hq_byReceived l g zX ad M2 F2 hL2 (V 1) hr1 ) hs_byReceived zk_906 rfl hl.1 rfl (Nat.le_of_ble_eq_true rfl) (by decide) ⟨by show _ ≤ 217; omega, by show _ ≤ 1302; omega⟩ dL_hares_250 (fun k4 M4 F4 H locs hr4 hp4 Wd => ?_)
    obtain ⟨rfl, -⟩ := hp4.1.resolve_left (fun ⟨q, h1, h2, _⟩ => by have := zrnk_in h1; omega)
    have hQ4 := hp4.2
    have hL4 := hQ4.1
    refine z_bipush C0 dL_hares_253 (by decide) ?_
    refine z_icmp_ne C0 (tgt := 312) (zR_mk (by decide) (by decide)) (zR_mk (by decide) (by decide)) dL_hares_255 (by decide) (fun h => absurd h (by decide)) (fun _ => ?_)
    refine z_aload_n C0 hl 0 rfl dL_hares_258 ?_
    refine z_iload_n C0 hl 1 rfl dL_hares_259 ?_
    refine z_invSH (As := [.ref (ad 0), .int (zI (V 1))]) (rest := []) C0 Wd hst (hq_chamberOf l g zX ad M4 F4 hL4 (V 1) hr1 ) hs_chamberOf zk_936 rfl hl.1 rfl (Nat.le_of_ble_eq_true rfl) (by decide) ⟨by show _ ≤ 217; omega, by show _ ≤ 1302; omega⟩ dL_hares_260 (fun k6 M6 F6 H locs hr6 hp6 Wd => ?_)
    obtain ⟨rfl, hQ6⟩ := hp6
    have hL6 := hQ6.1
    obtain ⟨he7, hr6⟩ : (qHr V 0 (V 1)) = (-11) ∧ zR (-11) := (fun q => ⟨q, q ▸ hr6⟩) (qHr_out (fun h => by have := h.2; omega))
    refine z_top (congrArg zI he7) ?_
    clear he7
    refine z_bipush C0 dL_hares_263 (by decide) ?_
    refine z_icmp_ne C0 (tgt := 312) (zR_mk (by decide) (by decide)) (zR_mk (by decide) (by decide)) dL_hares_265 (by decide) (fun h => absurd h (by decide)) (fun _ => ?_)
    refine z_aload_n C0 hl 0 rfl dL_hares_268 ?_
    refine z_iload_n C0 hl 1 rfl dL_hares_269 ?_
    refine z_invSH (As := [.ref (ad 0), .int (zI (V 1))]) (rest := []) C0 Wd hst (hq_isListening l g zX ad M6 F6 hL6 (V 1) hr1 ) hs_isListening zk_967 rfl hl.1 rfl (Nat.le_of_ble_eq_true rfl) (by decide) ⟨by show _ ≤ 217; omega, by show _ ≤ 1302; omega⟩ dL_hares_270 (fun k9 M9 F9 H locs hr9 hp9 Wd => ?_)
    obtain ⟨rfl, hQ9⟩ := hp9
    have hL9 := hQ9.1
    obtain ⟨he10, hr9⟩ : (qHr V 1 (V 1)) = (-11) ∧ zR (-11) := (fun q => ⟨q, q ▸ hr9⟩) (qHr_out (fun h => by have := h.2; omega))
    refine z_top (congrArg zI he10) ?_
    clear he10
    refine z_bipush C0 dL_hares_273 (by decide) ?_
    refine z_icmp_ne C0 (tgt := 312) (zR_mk (by decide) (by decide)) (zR_mk (by decide) (by decide)) dL_hares_275 (by decide) (fun h => absurd h (by decide)) (fun _ => ?_)
    refine z_aload_n C0 hl 0 rfl dL_hares_278 ?_
    refine z_iconst C0 dL_hares_279 ?_
    refine z_invSH (As := [.ref (ad 0), .int (zI (-1))]) (rest := []) C0 Wd hst (hq_isDrumming l g zX ad M9 F9 hL9 (-1) (zR_mk (by decide) (by decide)) ) hs_isDrumming zk_943 rfl hl.1 rfl (Nat.le_of_ble_eq_true rfl) (by decide) ⟨by show _ ≤ 217; omega, by show _ ≤ 1302; omega⟩ dL_hares_280 (fun k12 M12 F12 H locs hr12 hp12 Wd => ?_)
    obtain ⟨rfl, hQ12⟩ := hp12
    have hL12 := hQ12.1
    obtain ⟨he13, hr12⟩ : (qDr V (-1)) = (-11) ∧ zR (-11) := (fun q => ⟨q, q ▸ hr12⟩) (qDr_out (fun h => by have := h.1; omega))
    refine z_top (congrArg zI he13) ?_
    clear he13
    refine z_bipush C0 dL_hares_283 (by decide) ?_
    refine z_icmp_ne C0 (tgt := 312) (zR_mk (by decide) (by decide)) (zR_mk (by decide) (by decide)) dL_hares_285 (by decide) (fun h => absurd h (by decide)) (fun _ => ?_)
    refine z_aload_n C0 hl 0 rfl dL_hares_288 ?_
    refine z_iload_n C0 hl 1 rfl dL_hares_289 ?_
    refine z_invSH (As := [.ref (ad 0), .int (zI (V 1))]) (rest := []) C0 Wd hst (hq_received l g zX ad M12 F12 hL12 (V 1) hr1 ) hs_received zk_922 rfl hl.1 rfl (Nat.le_of_ble_eq_true rfl) (by decide) ⟨by show _ ≤ 217; omega, by show _ ≤ 1302; omega⟩ dL_hares_290 (fun k15 M15 F15 H locs hr15 hp15 Wd => ?_)
    obtain ⟨rfl, hQ15⟩ := hp15
    have hL15 := hQ15.1
    obtain ⟨he16, hr15⟩ : (qHr V 2 (V 1)) = (-11) ∧ zR (-11) := (fun q => ⟨q, q ▸ hr15⟩) (qHr_out (fun h => by have := h.2; omega))
    refine z_top (congrArg zI he16) ?_
    clear he16
    refine z_bipush C0 dL_hares_293 (by decide) ?_
    refine z_icmp_ne C0 (tgt := 312) (zR_mk (by decide) (by decide)) (zR_mk (by decide) (by decide)) dL_hares_295 (by decide) (fun h => absurd h (by decide)) (fun _ => ?_)
    refine z_aload_n C0 hl 0 rfl dL_hares_298 ?_
    refine z_iload_n C0 hl 1 rfl dL_hares_299 ?_
    refine z_invSH (As := [.ref (ad 0), .int (zI (V 1))]) (rest := []) C0 Wd hst (hq_latest l g zX ad M15 F15 hL15 (V 1) hr1 ) hs_latest zk_951 rfl hl.1 rfl (Nat.le_of_ble_eq_true rfl) (by decide) ⟨by show _ ≤ 217; omega, by show _ ≤ 1302; omega⟩ dL_hares_300 (fun k18 M18 F18 H locs hr18 hp18 Wd => ?_)
    obtain ⟨rfl, hQ18⟩ := hp18
    have hL18 := hQ18.1
    obtain ⟨he19, hr18⟩ : (qLa V (V 1)) = (-11) ∧ zR (-11) := (fun q => ⟨q, q ▸ hr18⟩) (qLa_out (fun h => by have := h.2; omega))
    refine z_top (congrArg zI he19) ?_
    clear he19
    refine z_bipush C0 dL_hares_303 (by decide) ?_
    refine z_icmp_ne C0 (tgt := 312) (zR_mk (by decide) (by decide)) (zR_mk (by decide) (by decide)) dL_hares_305 (by decide) (fun h => absurd h (by decide)) (fun _ => ?_)
    refine z_iconst C0 dL_hares_308 ?_
    refine z_goto C0 (tgt := 313) dL_hares_309 (by decide) ?_
    refine W.widen (k := 217) (n := 1302) (by omega) (by omega) ?_
    exact z_zret C0 Wd hret hlk (by first | exact Or.inl rfl | exact Or.inr rfl) ⟨rfl, hL18⟩ dL_hares_313
  have lp9 : ∀ (d9 k9 : Nat) (hk9 : (k9 : Int) + d9 = V 1) (al : Int) (M9009 F9009 : zMem) (hL9009 : zLw t many V U M9009 F9009) (hal : al = zSr V k9) (H : Heap) (locs : List Loc) (ls : Array Slot) (Wd : zW g (zA (0, 398, zX) ad s.heap.size) s.heap (0, 398, zX) ad M9009 F9009 H locs) (hl : lv_has ls 9 [(0, .ref (ad 0)), (1, .int (zI (V 1))), (2, .int (zI al)), (3, .int (zI (k9 : Int)))]), W p l e (zrm 12 217 1302) s m args below meth c H locs (35 * k9 + 0) (210 * k9 + 0) (zMQ below g (0, 398, zX) ad (zPi (fun k M' F' => k = 1 ∧ zLw t many V U M' F')) args s 217 1302) (F0 m 9 ls []) := by
    intro d9
    induction d9 with
    | zero =>
      intro k9 hk9 al M9009 F9009 hL9009 hal H locs ls Wd hl
      have hh9 := fun (q : (k9 : Int) < V 1) => hL.iv.2.2.2.2.2.1 (k9 : Int) (by omega) q
      refine z_iload_n C0 hl 3 rfl dL_hares_9 ?_
      refine z_iload_n C0 hl 1 rfl dL_hares_10 ?_
      refine z_icmp_ge C0 (tgt := 240) (zR_mk (by omega) (by omega)) hr1 dL_hares_11 (by decide) (fun c21 => ?_) (fun c21 => ?_)
      · skip
        refine W.widen (k := (210)) (n := (1260)) (by omega) (by omega) ?_
        exact aft9 k9 (by omega) al M9009 F9009 hL9009 (by first | assumption | omega) (by first | assumption | omega) _ _ _ Wd (lv_sub hl [0, 1, 2, 3] rfl)
      · skip
        exfalso; omega
    | succ d9 ih9 =>
      intro k9 hk9 al M9009 F9009 hL9009 hal H locs ls Wd hl
      have hh9 := fun (q : (k9 : Int) < V 1) => hL.iv.2.2.2.2.2.1 (k9 : Int) (by omega) q
      refine z_iload_n C0 hl 3 rfl dL_hares_9 ?_
      refine z_iload_n C0 hl 1 rfl dL_hares_10 ?_
      refine z_icmp_ge C0 (tgt := 240) (zR_mk (by omega) (by omega)) hr1 dL_hares_11 (by decide) (fun c22 => ?_) (fun c22 => ?_)
      · skip
        exfalso; omega
      · skip
        refine z_iconst C0 dL_hares_14 ?_
        refine z_istore C0 hl [(4, .int (zI 0)), (0, .ref (ad 0)), (1, .int (zI (V 1))), (2, .int (zI al)), (3, .int (zI (k9 : Int)))] (by decide) rfl dL_hares_15 (fun ls hl => ?_)
        refine z_iconst C0 dL_hares_17 ?_
        refine z_istore C0 hl [(5, .int (zI 0)), (4, .int (zI 0)), (0, .ref (ad 0)), (1, .int (zI (V 1))), (2, .int (zI al)), (3, .int (zI (k9 : Int)))] (by decide) rfl dL_hares_18 (fun ls hl => ?_)
        have hb20 : V 2 ≤ 8 := by omega
        have aft20 : ∀ (k20 : Nat) (hk20 : (k20 : Int) ≤ V 2) (dr : Int) (M9020 F9020 : zMem) (hL9020 : zLw t many V U M9020 F9020) (hd01 : dr = 0 ∨ dr = 1) (hdr : dr = zb (zany (fun q => V (96 + 47 * q + 4) = 100 ∧ V (96 + 47 * q + 1) = (k9 : Int)) k20 = true)) (hx20 : (k20 : Int) = V 2) (H : Heap) (locs : List Loc) (ls : Array Slot) (Wd : zW g (zA (0, 398, zX) ad s.heap.size) s.heap (0, 398, zX) ad M9020 F9020 H locs) (hl : lv_has ls 9 [(0, .ref (ad 0)), (1, .int (zI (V 1))), (2, .int (zI al)), (3, .int (zI (k9 : Int))), (4, .int (zI dr)), (5, .int (zI (k20 : Int)))]), W p l e (zrm 12 217 1302) s m args below meth c H locs (35 * k9 + 24) (210 * k9 + 144) (zMQ below g (0, 398, zX) ad (zPi (fun k M' F' => k = 1 ∧ zLw t many V U M' F')) args s 217 1302) (F0 m 76 ls []) := by
          intro k20 hk20 dr M9020 F9020 hL9020 hd01 hdr hx20 H locs ls Wd hl
          have hd76 : dr = zb (zdrm V (k9 : Int)) := by rw [hdr, show k20 = (V 2).toNat by omega]
          have hh8 := hh9 (by omega)
          replace hl : lv_has ls 9 [(0, .ref (ad 0)), (1, .int (zI (V 1))), (2, .int (zI al)), (3, .int (zI (k9 : Int))), (4, .int (zI dr))] := lv_sub hl [0, 1, 2, 3, 4] rfl
          have jn91 : ∀ (bf : Int) (M8091 F8091 : zMem) (hL8091 : zLw t many V U M8091 F8091) (hbz : zR bf) (hbf : (k9 = 0 ∧ bf = -1) ∨ (0 < (k9 : Int) ∧ zisH V bf ∧ zrnk V bf = (k9 : Int) - 1)) (H : Heap) (locs : List Loc) (ls : Array Slot) (Wd : zW g (zA (0, 398, zX) ad s.heap.size) s.heap (0, 398, zX) ad M8091 F8091 H locs) (hl : lv_has ls 9 [(0, .ref (ad 0)), (1, .int (zI (V 1))), (2, .int (zI al)), (3, .int (zI (k9 : Int))), (4, .int (zI dr))]), W p l e (zrm 12 217 1302) s m args below meth c H locs (35 * k9 + 25) (210 * k9 + 150) (zMQ below g (0, 398, zX) ad (zPi (fun k M' F' => k = 1 ∧ zLw t many V U M' F')) args s 217 1302) (F0 m 91 ls [.int (zI bf)]) := by
            intro bf M8091 F8091 hL8091 hbz hbf H locs ls Wd hl
            refine z_istore C0 hl [(5, .int (zI bf)), (0, .ref (ad 0)), (1, .int (zI (V 1))), (2, .int (zI al)), (3, .int (zI (k9 : Int))), (4, .int (zI dr))] (by decide) rfl dL_hares_91 (fun ls hl => ?_)
            refine z_aload_n C0 hl 1 rfl dL_hares_93 ?_
            refine z_iload_n C0 hl 4 rfl dL_hares_94 ?_
            refine z_invSH (As := [.ref (ad 0), .int (zI (k9 : Int))]) (rest := []) C0 Wd hst (hq_byReceived l g zX ad M8091 F8091 hL8091 (k9 : Int) (zR_mk (by omega) (by omega)) ) hs_byReceived zk_906 rfl hl.1 rfl (Nat.le_of_ble_eq_true rfl) (by decide) ⟨by show _ ≤ 217; omega, by show _ ≤ 1302; omega⟩ dL_hares_95 (fun k23 M23 F23 H locs hr23 hp23 Wd => ?_)
            obtain ⟨b23, hb23, hbr23, hke23⟩ := hp23.1.resolve_right (fun z => zby_no ⟨by omega, by omega⟩ z.2)
            have hQ23 := hp23.2
            clear hp23
            subst hke23
            have hL23 := hQ23.1
            refine z_istore C0 hl [(6, .int (zI k23)), (5, .int (zI bf)), (0, .ref (ad 0)), (1, .int (zI (V 1))), (2, .int (zI al)), (3, .int (zI (k9 : Int))), (4, .int (zI dr))] (by decide) rfl dL_hares_98 (fun ls hl => ?_)
            have jn121 : ∀ (bz : Int) (M8121 F8121 : zMem) (hL8121 : zLw t many V U M8121 F8121) (hbb : -200000 ≤ bz ∧ bz ≤ 200000) (hby : ((k9 : Int) = 0 ∧ bz = 1) ∨ (0 < (k9 : Int) ∧ bz = V (72 + 4 * bf + 2) - V (72 + 4 * k23 + 2))) (H : Heap) (locs : List Loc) (ls : Array Slot) (Wd : zW g (zA (0, 398, zX) ad s.heap.size) s.heap (0, 398, zX) ad M8121 F8121 H locs) (hl : lv_has ls 9 [(0, .ref (ad 0)), (1, .int (zI (V 1))), (2, .int (zI al)), (3, .int (zI (k9 : Int))), (4, .int (zI dr)), (5, .int (zI bf)), (6, .int (zI k23))]), W p l e (zrm 12 217 1302) s m args below meth c H locs (35 * k9 + 28) (210 * k9 + 168) (zMQ below g (0, 398, zX) ad (zPi (fun k M' F' => k = 1 ∧ zLw t many V U M' F')) args s 217 1302) (F0 m 121 ls [.int (zI bz)]) := by
              intro bz M8121 F8121 hL8121 hbb hby H locs ls Wd hl
              have hfz : (k9 : Int) = 0 ∧ bz = 1 ∨ (0 < bz ∨ (bz = 0 ∧ bf < k23)) := by
                              rcases hby with h | ⟨h, h2⟩
                              · exact Or.inl h
                              · rcases hbf with q | ⟨q1, q2, q3⟩
                                · omega
                                · have := zrnk_inv q2 hb23 (by omega)
                                  omega
              refine z_istore C0 hl [(7, .int (zI bz)), (0, .ref (ad 0)), (1, .int (zI (V 1))), (2, .int (zI al)), (3, .int (zI (k9 : Int))), (4, .int (zI dr)), (5, .int (zI bf)), (6, .int (zI k23))] (by decide) rfl dL_hares_121 (fun ls hl => ?_)
              refine z_iload_n C0 hl 3 rfl dL_hares_123 ?_
              refine z_aload_n C0 hl 1 rfl dL_hares_124 ?_
              refine z_iload_n C0 hl 4 rfl dL_hares_125 ?_
              refine z_invSH (As := [.ref (ad 0), .int (zI (k9 : Int))]) (rest := [.int (zI al)]) C0 Wd hst (hq_received l g zX ad M8121 F8121 hL8121 (k9 : Int) (zR_mk (by omega) (by omega)) ) hs_received zk_922 rfl hl.1 rfl (Nat.le_of_ble_eq_true rfl) (by decide) ⟨by show _ ≤ 217; omega, by show _ ≤ 1302; omega⟩ dL_hares_126 (fun k24 M24 F24 H locs hr24 hp24 Wd => ?_)
              obtain ⟨rfl, hQ24⟩ := hp24
              have hL24 := hQ24.1
              obtain ⟨he25, hr24⟩ : (qHr V 2 (k9 : Int)) = (V (72 + 4 * (k9 : Int) + 2)) ∧ zR (V (72 + 4 * (k9 : Int) + 2)) := (fun q => ⟨q, q ▸ hr24⟩) (qHr_in ⟨by omega, by omega⟩)
              refine z_top (congrArg zI he25) ?_
              clear he25
              refine z_iadd C0 dL_hares_129 ?_
              refine z_istore_n C0 hl [(2, .int (zI (al + (V (72 + 4 * (k9 : Int) + 2))))), (7, .int (zI bz)), (0, .ref (ad 0)), (1, .int (zI (V 1))), (3, .int (zI (k9 : Int))), (4, .int (zI dr)), (5, .int (zI bf)), (6, .int (zI k23))] (by decide) rfl dL_hares_130 (fun ls hl => ?_)
              refine z_aload_n C0 hl 2 rfl dL_hares_131 ?_
              refine z_iload_n C0 hl 4 rfl dL_hares_132 ?_
              refine z_invSH (As := [.ref (ad 0), .int (zI (k9 : Int))]) (rest := []) C0 Wd hst (hq_chamberOf l g zX ad M24 F24 hL24 (k9 : Int) (zR_mk (by omega) (by omega)) ) hs_chamberOf zk_936 rfl hl.1 rfl (Nat.le_of_ble_eq_true rfl) (by decide) ⟨by show _ ≤ 217; omega, by show _ ≤ 1302; omega⟩ dL_hares_133 (fun k26 M26 F26 H locs hr26 hp26 Wd => ?_)
              obtain ⟨rfl, hQ26⟩ := hp26
              have hL26 := hQ26.1
              obtain ⟨he27, hr26⟩ : (qHr V 0 (k9 : Int)) = (V (72 + 4 * (k9 : Int) + 0)) ∧ zR (V (72 + 4 * (k9 : Int) + 0)) := (fun q => ⟨q, q ▸ hr26⟩) (qHr_in ⟨by omega, by omega⟩)
              refine z_top (congrArg zI he27) ?_
              clear he27
              refine z_if_lt C0 (tgt := 202) hr26 dL_hares_136 (by decide) (fun h9 => (by exfalso; omega)) (fun c28 => ?_)
              refine z_aload_n C0 hl 2 rfl dL_hares_139 ?_
              refine z_iload_n C0 hl 4 rfl dL_hares_140 ?_
              refine z_invSH (As := [.ref (ad 0), .int (zI (k9 : Int))]) (rest := []) C0 Wd hst (hq_chamberOf l g zX ad M26 F26 hL26 (k9 : Int) (zR_mk (by omega) (by omega)) ) hs_chamberOf zk_936 rfl hl.1 rfl (Nat.le_of_ble_eq_true rfl) (by decide) ⟨by show _ ≤ 217; omega, by show _ ≤ 1302; omega⟩ dL_hares_141 (fun k29 M29 F29 H locs hr29 hp29 Wd => ?_)
              obtain ⟨rfl, hQ29⟩ := hp29
              have hL29 := hQ29.1
              obtain ⟨he30, hr29⟩ : (qHr V 0 (k9 : Int)) = (V (72 + 4 * (k9 : Int) + 0)) ∧ zR (V (72 + 4 * (k9 : Int) + 0)) := (fun q => ⟨q, q ▸ hr29⟩) (qHr_in ⟨by omega, by omega⟩)
              refine z_top (congrArg zI he30) ?_
              clear he30
              refine z_aload_n C0 hl 2 rfl dL_hares_144 ?_
              refine z_invVi (As := []) (rest := [.int (zI (V (72 + 4 * (k9 : Int) + 0)))]) C0 Wd (hv_chamberCount l g zX ad M29 F29 hL29) kv_X11_chamberCount zN0 (zE_8 zK0) rfl zk_773 rfl hl.1 rfl (Nat.le_of_ble_eq_true rfl) (by decide) ⟨by show _ ≤ 217; omega, by show _ ≤ 1302; omega⟩ dL_hares_145 (fun k31 M31 F31 H locs hr31 hp31 Wd => ?_)
              obtain ⟨rfl, hQ31⟩ := hp31
              have hL31 := hQ31.1
              refine z_icmp_ge C0 (tgt := 202) hr29 hr31 dL_hares_148 (by decide) (fun h9 => (by exfalso; omega)) (fun c32 => ?_)
              refine z_aload_n C0 hl 2 rfl dL_hares_151 ?_
              refine z_iload_n C0 hl 4 rfl dL_hares_152 ?_
              refine z_invSH (As := [.ref (ad 0), .int (zI (k9 : Int))]) (rest := []) C0 Wd hst (hq_isDrumming l g zX ad M31 F31 hL31 (k9 : Int) (zR_mk (by omega) (by omega)) ) hs_isDrumming zk_943 rfl hl.1 rfl (Nat.le_of_ble_eq_true rfl) (by decide) ⟨by show _ ≤ 217; omega, by show _ ≤ 1302; omega⟩ dL_hares_153 (fun k33 M33 F33 H locs hr33 hp33 Wd => ?_)
              obtain ⟨rfl, hQ33⟩ := hp33
              have hL33 := hQ33.1
              obtain ⟨he34, hr33⟩ : (qDr V (k9 : Int)) = (zb (zdrm V (k9 : Int))) ∧ zR (zb (zdrm V (k9 : Int))) := (fun q => ⟨q, q ▸ hr33⟩) (qDr_in ⟨by omega, by omega⟩)
              refine z_top (congrArg zI he34) ?_
              clear he34
              have jn166 : ∀ (M8166 F8166 : zMem) (hL8166 : zLw t many V U M8166 F8166) (H : Heap) (locs : List Loc) (ls : Array Slot) (Wd : zW g (zA (0, 398, zX) ad s.heap.size) s.heap (0, 398, zX) ad M8166 F8166 H locs) (hl : lv_has ls 9 [(0, .ref (ad 0)), (1, .int (zI (V 1))), (2, .int (zI (al + (V (72 + 4 * (k9 : Int) + 2))))), (3, .int (zI (k9 : Int))), (4, .int (zI dr)), (5, .int (zI bf)), (6, .int (zI k23)), (7, .int (zI bz))]), W p l e (zrm 12 217 1302) s m args below meth c H locs (35 * k9 + 32) (210 * k9 + 192) (zMQ below g (0, 398, zX) ad (zPi (fun k M' F' => k = 1 ∧ zLw t many V U M' F')) args s 217 1302) (F0 m 166 ls [.int (zI dr), .int (zI (zb (zdrm V (k9 : Int))))]) := by
                intro M8166 F8166 hL8166 H locs ls Wd hl
                refine z_icmp_ne C0 (tgt := 202) hr33 (zR_mk (by omega) (by omega)) dL_hares_166 (by decide) (fun h9 => (by exfalso; exact h9 hd76.symm)) (fun c35 => ?_)
                refine z_aload_n C0 hl 0 rfl dL_hares_169 ?_
                refine z_iload_n C0 hl 3 rfl dL_hares_170 ?_
                refine z_invSH (As := [.ref (ad 0), .int (zI (k9 : Int))]) (rest := []) C0 Wd hst (hq_received l g zX ad M8166 F8166 hL8166 (k9 : Int) (zR_mk (by omega) (by omega)) ) hs_received zk_922 rfl hl.1 rfl (Nat.le_of_ble_eq_true rfl) (by decide) ⟨by show _ ≤ 217; omega, by show _ ≤ 1302; omega⟩ dL_hares_171 (fun k36 M36 F36 H locs hr36 hp36 Wd => ?_)
                obtain ⟨rfl, hQ36⟩ := hp36
                have hL36 := hQ36.1
                obtain ⟨he37, hr36⟩ : (qHr V 2 (k9 : Int)) = (V (72 + 4 * (k9 : Int) + 2)) ∧ zR (V (72 + 4 * (k9 : Int) + 2)) := (fun q => ⟨q, q ▸ hr36⟩) (qHr_in ⟨by omega, by omega⟩)
                refine z_top (congrArg zI he37) ?_
                clear he37
                have jn182 : ∀ (M8182 F8182 : zMem) (hL8182 : zLw t many V U M8182 F8182) (H : Heap) (locs : List Loc) (ls : Array Slot) (Wd : zW g (zA (0, 398, zX) ad s.heap.size) s.heap (0, 398, zX) ad M8182 F8182 H locs) (hl : lv_has ls 9 [(0, .ref (ad 0)), (1, .int (zI (V 1))), (2, .int (zI (al + (V (72 + 4 * (k9 : Int) + 2))))), (3, .int (zI (k9 : Int))), (4, .int (zI dr)), (5, .int (zI bf)), (6, .int (zI k23)), (7, .int (zI bz))]), W p l e (zrm 12 217 1302) s m args below meth c H locs (35 * k9 + 33) (210 * k9 + 198) (zMQ below g (0, 398, zX) ad (zPi (fun k M' F' => k = 1 ∧ zLw t many V U M' F')) args s 217 1302) (F0 m 182 ls [.int (zI (zb (0 < V (72 + 4 * (k9 : Int) + 2))))]) := by
                  intro M8182 F8182 hL8182 H locs ls Wd hl
                  refine z_aload_n C0 hl 0 rfl dL_hares_182 ?_
                  refine z_iload_n C0 hl 3 rfl dL_hares_183 ?_
                  refine z_invSH (As := [.ref (ad 0), .int (zI (k9 : Int))]) (rest := [.int (zI (zb (0 < V (72 + 4 * (k9 : Int) + 2))))]) C0 Wd hst (hq_latest l g zX ad M8182 F8182 hL8182 (k9 : Int) (zR_mk (by omega) (by omega)) ) hs_latest zk_951 rfl hl.1 rfl (Nat.le_of_ble_eq_true rfl) (by decide) ⟨by show _ ≤ 217; omega, by show _ ≤ 1302; omega⟩ dL_hares_184 (fun k38 M38 F38 H locs hr38 hp38 Wd => ?_)
                  obtain ⟨rfl, hQ38⟩ := hp38
                  have hL38 := hQ38.1
                  have jn195 : ∀ (M8195 F8195 : zMem) (hL8195 : zLw t many V U M8195 F8195) (H : Heap) (locs : List Loc) (ls : Array Slot) (Wd : zW g (zA (0, 398, zX) ad s.heap.size) s.heap (0, 398, zX) ad M8195 F8195 H locs) (hl : lv_has ls 9 [(0, .ref (ad 0)), (1, .int (zI (V 1))), (2, .int (zI (al + (V (72 + 4 * (k9 : Int) + 2))))), (3, .int (zI (k9 : Int))), (4, .int (zI dr)), (5, .int (zI bf)), (6, .int (zI k23)), (7, .int (zI bz))]), W p l e (zrm 12 217 1302) s m args below meth c H locs (35 * k9 + 35) (210 * k9 + 210) (zMQ below g (0, 398, zX) ad (zPi (fun k M' F' => k = 1 ∧ zLw t many V U M' F')) args s 217 1302) (F0 m 195 ls [.int (zI (zb (0 < V (72 + 4 * (k9 : Int) + 2)))), .int (zI (zb (0 < V (72 + 4 * (k9 : Int) + 2))))]) := by
                    intro M8195 F8195 hL8195 H locs ls Wd hl
                    refine z_icmp_ne C0 (tgt := 202) (zb_R _) (zb_R _) dL_hares_195 (by decide) (fun h9 => (by exfalso; exact h9 rfl)) (fun c39 => ?_)
                    refine z_iconst C0 dL_hares_198 ?_
                    refine z_goto C0 (tgt := 203) dL_hares_199 (by decide) ?_
                    refine z_istore C0 hl [(8, .int (zI 1)), (0, .ref (ad 0)), (1, .int (zI (V 1))), (2, .int (zI (al + (V (72 + 4 * (k9 : Int) + 2))))), (3, .int (zI (k9 : Int))), (4, .int (zI dr)), (5, .int (zI bf)), (6, .int (zI k23)), (7, .int (zI bz))] (by decide) rfl dL_hares_203 (fun ls hl => ?_)
                    refine z_iload C0 hl 0 rfl dL_hares_205 ?_
                    refine z_if_eq C0 (tgt := 232) (zR_mk (by decide) (by decide)) dL_hares_207 (by decide) (fun h => absurd h (by decide)) (fun _ => ?_)
                    refine z_iload C0 hl 7 rfl dL_hares_210 ?_
                    refine z_if_lt C0 (tgt := 232) hr23 dL_hares_212 (by decide) (fun h9 => (by exfalso; omega)) (fun c41 => ?_)
                    refine z_iload C0 hl 8 rfl dL_hares_215 ?_
                    refine z_if_lt C0 (tgt := 232) (zR_mk (by omega) (by omega)) dL_hares_217 (by decide) (fun h9 => (by exfalso; omega)) (fun c42 => ?_)
                    refine z_iload C0 hl 8 rfl dL_hares_220 ?_
                    refine z_if_ne C0 (tgt := 234) (zR_mk (by omega) (by omega)) dL_hares_222 (by decide) (fun c43 => ?_) (fun c43 => ?_)
                    · skip
                      refine z_iinc C0 hl 4 (t := (k9 : Int)) (u := ((k9 : Int) + 1)) rfl (by omega) [(3, .int (zI ((k9 : Int) + 1))), (8, .int (zI 1)), (0, .ref (ad 0)), (1, .int (zI (V 1))), (2, .int (zI (al + (V (72 + 4 * (k9 : Int) + 2))))), (4, .int (zI dr)), (5, .int (zI bf)), (6, .int (zI k23)), (7, .int (zI bz))] (by decide) rfl dL_hares_234 (fun ls hl => ?_)
                      refine z_goto C0 (tgt := 9) dL_hares_237 (by decide) ?_
                      refine W.widen (k := (35 * (k9 + 1) + 0)) (n := (210 * (k9 + 1) + 0)) (by omega) (by omega) ?_
                      exact ih9 (k9 + 1) (by omega) (al + (V (72 + 4 * (k9 : Int) + 2))) M8195 F8195 hL8195 (by rw [hal]; rfl) _ _ _ Wd (lv_sub hl [2, 3, 4, 0] rfl)
                    · skip
                      refine z_iload C0 hl 6 rfl dL_hares_225 ?_
                      refine z_iload C0 hl 7 rfl dL_hares_227 ?_
                      refine z_icmp_le C0 (tgt := 234) hbz hr23 dL_hares_229 (by decide) (fun c44 => ?_) (fun h9 => (by exfalso; omega))
                      refine z_iinc C0 hl 4 (t := (k9 : Int)) (u := ((k9 : Int) + 1)) rfl (by omega) [(3, .int (zI ((k9 : Int) + 1))), (8, .int (zI 1)), (0, .ref (ad 0)), (1, .int (zI (V 1))), (2, .int (zI (al + (V (72 + 4 * (k9 : Int) + 2))))), (4, .int (zI dr)), (5, .int (zI bf)), (6, .int (zI k23)), (7, .int (zI bz))] (by decide) rfl dL_hares_234 (fun ls hl => ?_)
                      refine z_goto C0 (tgt := 9) dL_hares_237 (by decide) ?_
                      refine W.widen (k := (35 * (k9 + 1) + 0)) (n := (210 * (k9 + 1) + 0)) (by omega) (by omega) ?_
                      exact ih9 (k9 + 1) (by omega) (al + (V (72 + 4 * (k9 : Int) + 2))) M8195 F8195 hL8195 (by rw [hal]; rfl) _ _ _ Wd (lv_sub hl [2, 3, 4, 0] rfl)
                  have hla := (qLa_sg hL (h := (k9 : Int)) ⟨by omega, by omega⟩).2
                  refine z_if_lt C0 (tgt := 194) hr38 dL_hares_187 (by decide) (fun c45 => ?_) (fun c45 => ?_)
                  · skip
                    refine z_iconst C0 dL_hares_194 ?_
                    refine z_top (congrArg zI (show 0 = zb (0 < V (72 + 4 * (k9 : Int) + 2)) from (zb_f (fun z => absurd ((qLa_sg hL ⟨by omega, by omega⟩).1.mpr z) (by omega))).symm)) ?_
                    refine W.widen (k := (35 * k9 + 35)) (n := (210 * k9 + 210)) (by omega) (by omega) ?_
                    exact jn195  M38 F38 hL38  _ _ _ Wd (lv_sub hl [0, 1, 2, 3, 4, 5, 6, 7] rfl)
                  · skip
                    refine z_iconst C0 dL_hares_190 ?_
                    refine z_goto C0 (tgt := 195) dL_hares_191 (by decide) ?_
                    refine z_top (congrArg zI (show 1 = zb (0 < V (72 + 4 * (k9 : Int) + 2)) from (zb_t ((qLa_sg hL ⟨by omega, by omega⟩).1.mp (by omega))).symm)) ?_
                    refine W.widen (k := (35 * k9 + 35)) (n := (210 * k9 + 210)) (by omega) (by omega) ?_
                    exact jn195  M38 F38 hL38  _ _ _ Wd (lv_sub hl [0, 1, 2, 3, 4, 5, 6, 7] rfl)
                refine z_if_le C0 (tgt := 181) hr36 dL_hares_174 (by decide) (fun c46 => ?_) (fun c46 => ?_)
                · skip
                  refine z_iconst C0 dL_hares_181 ?_
                  refine z_top (congrArg zI (show 0 = zb (0 < V (72 + 4 * (k9 : Int) + 2)) from (zb_f (by omega)).symm)) ?_
                  refine W.widen (k := (35 * k9 + 33)) (n := (210 * k9 + 198)) (by omega) (by omega) ?_
                  exact jn182  M36 F36 hL36  _ _ _ Wd (lv_sub hl [0, 1, 2, 3, 4, 5, 6, 7] rfl)
                · skip
                  refine z_iconst C0 dL_hares_177 ?_
                  refine z_goto C0 (tgt := 182) dL_hares_178 (by decide) ?_
                  refine z_top (congrArg zI (show 1 = zb (0 < V (72 + 4 * (k9 : Int) + 2)) from (zb_t (by omega)).symm)) ?_
                  refine W.widen (k := (35 * k9 + 33)) (n := (210 * k9 + 198)) (by omega) (by omega) ?_
                  exact jn182  M36 F36 hL36  _ _ _ Wd (lv_sub hl [0, 1, 2, 3, 4, 5, 6, 7] rfl)
              refine z_iload C0 hl 5 rfl dL_hares_156 ?_
              refine z_if_eq C0 (tgt := 165) (zR_mk (by omega) (by omega)) dL_hares_158 (by decide) (fun c47 => ?_) (fun c47 => ?_)
              · skip
                refine z_iconst C0 dL_hares_165 ?_
                refine z_top (congrArg zI (show 0 = dr from (by omega))) ?_
                refine W.widen (k := (35 * k9 + 32)) (n := (210 * k9 + 192)) (by omega) (by omega) ?_
                exact jn166  M33 F33 hL33  _ _ _ Wd (lv_sub hl [2, 3, 0, 4, 5, 6, 7, 1] rfl)
              · skip
                refine z_iconst C0 dL_hares_161 ?_
                refine z_goto C0 (tgt := 166) dL_hares_162 (by decide) ?_
                refine z_top (congrArg zI (show 1 = dr from (by omega))) ?_
                refine W.widen (k := (35 * k9 + 32)) (n := (210 * k9 + 192)) (by omega) (by omega) ?_
                exact jn166  M33 F33 hL33  _ _ _ Wd (lv_sub hl [2, 3, 0, 4, 5, 6, 7, 1] rfl)
            refine z_iload_n C0 hl 5 rfl dL_hares_100 ?_
            refine z_if_ne C0 (tgt := 108) (zR_mk (by omega) (by omega)) dL_hares_101 (by decide) (fun c48 => ?_) (fun c48 => ?_)
            · skip
              refine z_aload_n C0 hl 2 rfl dL_hares_108 ?_
              refine z_iload C0 hl 1 rfl dL_hares_109 ?_
              have hi1 : zisH V bf := by omega
              refine z_invSH (As := [.ref (ad 0), .int (zI bf)]) (rest := []) C0 Wd hst (hq_received l g zX ad M23 F23 hL23 bf hbz ) hs_received zk_922 rfl hl.1 rfl (Nat.le_of_ble_eq_true rfl) (by decide) ⟨by show _ ≤ 217; omega, by show _ ≤ 1302; omega⟩ dL_hares_111 (fun k49 M49 F49 H locs hr49 hp49 Wd => ?_)
              obtain ⟨rfl, hQ49⟩ := hp49
              have hL49 := hQ49.1
              obtain ⟨he50, hr49⟩ : (qHr V 2 bf) = (V (72 + 4 * bf + 2)) ∧ zR (V (72 + 4 * bf + 2)) := (fun q => ⟨q, q ▸ hr49⟩) (qHr_in hi1)
              refine z_top (congrArg zI he50) ?_
              clear he50
              refine z_aload_n C0 hl 2 rfl dL_hares_114 ?_
              refine z_iload C0 hl 0 rfl dL_hares_115 ?_
              refine z_invSH (As := [.ref (ad 0), .int (zI k23)]) (rest := [.int (zI (V (72 + 4 * bf + 2)))]) C0 Wd hst (hq_received l g zX ad M49 F49 hL49 k23 hr23 ) hs_received zk_922 rfl hl.1 rfl (Nat.le_of_ble_eq_true rfl) (by decide) ⟨by show _ ≤ 217; omega, by show _ ≤ 1302; omega⟩ dL_hares_117 (fun k51 M51 F51 H locs hr51 hp51 Wd => ?_)
              obtain ⟨rfl, hQ51⟩ := hp51
              have hL51 := hQ51.1
              obtain ⟨he52, hr51⟩ : (qHr V 2 k23) = (V (72 + 4 * k23 + 2)) ∧ zR (V (72 + 4 * k23 + 2)) := (fun q => ⟨q, q ▸ hr51⟩) (qHr_in hb23)
              refine z_top (congrArg zI he52) ?_
              clear he52
              have hi2 := (hL.iv.2.2.2.2.2.1 bf hi1.1 hi1.2).2.2.1
              have hi3 := (hL.iv.2.2.2.2.2.1 k23 hb23.1 hb23.2).2.2.1
              refine z_isub C0 dL_hares_120 ?_
              refine W.widen (k := (35 * k9 + 28)) (n := (210 * k9 + 168)) (by omega) (by omega) ?_
              exact jn121 ((V (72 + 4 * bf + 2)) - (V (72 + 4 * k23 + 2))) M51 F51 hL51 (by omega) (by first | exact Or.inl ⟨by omega, rfl⟩ | exact Or.inr ⟨by omega, rfl⟩) _ _ _ Wd (lv_sub hl [2, 3, 4, 5, 6, 1, 0] rfl)
            · skip
              refine z_iconst C0 dL_hares_104 ?_
              refine z_goto C0 (tgt := 121) dL_hares_105 (by decide) ?_
              refine W.widen (k := (35 * k9 + 28)) (n := (210 * k9 + 168)) (by omega) (by omega) ?_
              exact jn121 1 M23 F23 hL23 (by omega) (by first | exact Or.inl ⟨by omega, rfl⟩ | exact Or.inr ⟨by omega, rfl⟩) _ _ _ Wd (lv_sub hl [2, 3, 4, 5, 6, 1, 0] rfl)
          refine z_iload_n C0 hl 3 rfl dL_hares_76 ?_
          refine z_if_ne C0 (tgt := 84) (zR_mk (by omega) (by omega)) dL_hares_77 (by decide) (fun c53 => ?_) (fun c53 => ?_)
          · skip
            refine z_aload_n C0 hl 0 rfl dL_hares_84 ?_
            refine z_iload_n C0 hl 3 rfl dL_hares_85 ?_
            refine z_iconst C0 dL_hares_86 ?_
            refine z_isub C0 dL_hares_87 ?_
            refine z_invSH (As := [.ref (ad 0), .int (zI ((k9 : Int) - 1))]) (rest := []) C0 Wd hst (hq_byReceived l g zX ad M9020 F9020 hL9020 ((k9 : Int) - 1) (zR_mk (by omega) (by omega)) ) hs_byReceived zk_906 rfl hl.1 rfl (Nat.le_of_ble_eq_true rfl) (by decide) ⟨by show _ ≤ 217; omega, by show _ ≤ 1302; omega⟩ dL_hares_88 (fun k54 M54 F54 H locs hr54 hp54 Wd => ?_)
            obtain ⟨b54, hb54, hbr54, hke54⟩ := hp54.1.resolve_right (fun z => zby_no ⟨by omega, by omega⟩ z.2)
            have hQ54 := hp54.2
            clear hp54
            subst hke54
            have hL54 := hQ54.1
            refine W.widen (k := (35 * k9 + 25)) (n := (210 * k9 + 150)) (by omega) (by omega) ?_
            exact jn91 k54 M54 F54 hL54 hr54 (Or.inr ⟨by omega, hb54, hbr54⟩) _ _ _ Wd (lv_sub hl [0, 1, 2, 3, 4] rfl)
          · skip
            refine z_iconst C0 dL_hares_80 ?_
            refine z_goto C0 (tgt := 91) dL_hares_81 (by decide) ?_
            refine W.widen (k := (35 * k9 + 25)) (n := (210 * k9 + 150)) (by omega) (by omega) ?_
            exact jn91 (-1) M9020 F9020 hL9020 (zR_mk (by decide) (by decide)) (Or.inl ⟨by omega, rfl⟩) _ _ _ Wd (lv_sub hl [0, 1, 2, 3, 4] rfl)
        have lp20 : ∀ (d20 k20 : Nat) (hk20 : (k20 : Int) + d20 = V 2) (dr : Int) (M9020 F9020 : zMem) (hL9020 : zLw t many V U M9020 F9020) (hd01 : dr = 0 ∨ dr = 1) (hdr : dr = zb (zany (fun q => V (96 + 47 * q + 4) = 100 ∧ V (96 + 47 * q + 1) = (k9 : Int)) k20 = true)) (H : Heap) (locs : List Loc) (ls : Array Slot) (Wd : zW g (zA (0, 398, zX) ad s.heap.size) s.heap (0, 398, zX) ad M9020 F9020 H locs) (hl : lv_has ls 9 [(0, .ref (ad 0)), (1, .int (zI (V 1))), (2, .int (zI al)), (3, .int (zI (k9 : Int))), (4, .int (zI dr)), (5, .int (zI (k20 : Int)))]), W p l e (zrm 12 217 1302) s m args below meth c H locs (3 * k20 + 35 * k9 + 0) (18 * k20 + 210 * k9 + 0) (zMQ below g (0, 398, zX) ad (zPi (fun k M' F' => k = 1 ∧ zLw t many V U M' F')) args s 217 1302) (F0 m 20 ls []) := by
          intro d20
          induction d20 with
          | zero =>
            intro k20 hk20 dr M9020 F9020 hL9020 hd01 hdr H locs ls Wd hl
            refine z_iload C0 hl 5 rfl dL_hares_20 ?_
            refine z_aload_n C0 hl 0 rfl dL_hares_22 ?_
            refine z_invVi (As := []) (rest := [.int (zI (k20 : Int))]) C0 Wd (hv_messageCount l g zX ad M9020 F9020 hL9020) kv_X11_messageCount zN0 (zE_8 zK0) rfl zk_871 rfl hl.1 rfl (Nat.le_of_ble_eq_true rfl) (by decide) ⟨by show _ ≤ 217; omega, by show _ ≤ 1302; omega⟩ dL_hares_23 (fun k55 M55 F55 H locs hr55 hp55 Wd => ?_)
            obtain ⟨rfl, hQ55⟩ := hp55
            have hL55 := hQ55.1
            refine z_icmp_ge C0 (tgt := 76) (zR_mk (by omega) (by omega)) hr55 dL_hares_26 (by decide) (fun c56 => ?_) (fun c56 => ?_)
            · skip
              refine W.widen (k := (35 * k9 + 24)) (n := (210 * k9 + 144)) (by omega) (by omega) ?_
              exact aft20 k20 (by omega) dr M55 F55 hL55 (by first | assumption | omega) (by first | assumption | omega) (by first | assumption | omega) _ _ _ Wd (lv_sub hl [0, 1, 2, 3, 4, 5] rfl)
            · skip
              exfalso; omega
          | succ d20 ih20 =>
            intro k20 hk20 dr M9020 F9020 hL9020 hd01 hdr H locs ls Wd hl
            refine z_iload C0 hl 5 rfl dL_hares_20 ?_
            refine z_aload_n C0 hl 0 rfl dL_hares_22 ?_
            refine z_invVi (As := []) (rest := [.int (zI (k20 : Int))]) C0 Wd (hv_messageCount l g zX ad M9020 F9020 hL9020) kv_X11_messageCount zN0 (zE_8 zK0) rfl zk_871 rfl hl.1 rfl (Nat.le_of_ble_eq_true rfl) (by decide) ⟨by show _ ≤ 217; omega, by show _ ≤ 1302; omega⟩ dL_hares_23 (fun k57 M57 F57 H locs hr57 hp57 Wd => ?_)
            obtain ⟨rfl, hQ57⟩ := hp57
            have hL57 := hQ57.1
            refine z_icmp_ge C0 (tgt := 76) (zR_mk (by omega) (by omega)) hr57 dL_hares_26 (by decide) (fun c58 => ?_) (fun c58 => ?_)
            · skip
              exfalso; omega
            · skip
              refine z_aload_n C0 hl 0 rfl dL_hares_29 ?_
              refine z_iload C0 hl 5 rfl dL_hares_30 ?_
              refine z_invSH (As := [.ref (ad 0), .int (zI (k20 : Int))]) (rest := []) C0 Wd hst (hq_messageAt l g zX ad M57 F57 hL57 (k20 : Int) (zR_mk (by omega) (by omega)) ) hs_messageAt zk_875 rfl hl.1 rfl (Nat.le_of_ble_eq_true rfl) (by decide) ⟨by show _ ≤ 217; omega, by show _ ≤ 1302; omega⟩ dL_hares_32 (fun k59 M59 F59 H locs hr59 hp59 Wd => ?_)
              obtain ⟨rfl, hQ59⟩ := hp59
              have hL59 := hQ59.1
              obtain ⟨he60, hr59⟩ : (qMa V (k20 : Int)) = (V (96 + 47 * (k20 : Int) + 0)) ∧ zR (V (96 + 47 * (k20 : Int) + 0)) := (fun q => ⟨q, q ▸ hr59⟩) (qMa_in ⟨by omega, by omega⟩)
              refine z_top (congrArg zI he60) ?_
              clear he60
              refine z_istore C0 hl [(6, .int (zI (V (96 + 47 * (k20 : Int) + 0)))), (0, .ref (ad 0)), (1, .int (zI (V 1))), (2, .int (zI al)), (3, .int (zI (k9 : Int))), (4, .int (zI dr)), (5, .int (zI (k20 : Int)))] (by decide) rfl dL_hares_35 (fun ls hl => ?_)
              have jn68 : ∀ (w : Int) (M8068 F8068 : zMem) (hL8068 : zLw t many V U M8068 F8068) (hw : (w = 1 ∧ (¬ dr = 0 ∨ (V (96 + 47 * (k20 : Int) + 4) = 100 ∧ V (96 + 47 * (k20 : Int) + 1) = (k9 : Int)))) ∨ (w = 0 ∧ dr = 0 ∧ ¬ (V (96 + 47 * (k20 : Int) + 4) = 100 ∧ V (96 + 47 * (k20 : Int) + 1) = (k9 : Int)))) (H : Heap) (locs : List Loc) (ls : Array Slot) (Wd : zW g (zA (0, 398, zX) ad s.heap.size) s.heap (0, 398, zX) ad M8068 F8068 H locs) (hl : lv_has ls 9 [(0, .ref (ad 0)), (1, .int (zI (V 1))), (2, .int (zI al)), (3, .int (zI (k9 : Int))), (4, .int (zI dr)), (5, .int (zI (k20 : Int))), (6, .int (zI (V (96 + 47 * (k20 : Int) + 0))))]), W p l e (zrm 12 217 1302) s m args below meth c H locs (3 * k20 + 35 * k9 + 3) (18 * k20 + 210 * k9 + 18) (zMQ below g (0, 398, zX) ad (zPi (fun k M' F' => k = 1 ∧ zLw t many V U M' F')) args s 217 1302) (F0 m 68 ls [.int (zI w)]) := by
                intro w M8068 F8068 hL8068 hw H locs ls Wd hl
                refine z_istore C0 hl [(4, .int (zI w)), (0, .ref (ad 0)), (1, .int (zI (V 1))), (2, .int (zI al)), (3, .int (zI (k9 : Int))), (5, .int (zI (k20 : Int))), (6, .int (zI (V (96 + 47 * (k20 : Int) + 0))))] (by decide) rfl dL_hares_68 (fun ls hl => ?_)
                refine z_iinc C0 hl 5 (t := (k20 : Int)) (u := ((k20 : Int) + 1)) rfl (by omega) [(5, .int (zI ((k20 : Int) + 1))), (4, .int (zI w)), (0, .ref (ad 0)), (1, .int (zI (V 1))), (2, .int (zI al)), (3, .int (zI (k9 : Int))), (6, .int (zI (V (96 + 47 * (k20 : Int) + 0))))] (by decide) rfl dL_hares_70 (fun ls hl => ?_)
                refine z_goto C0 (tgt := 20) dL_hares_73 (by decide) ?_
                refine W.widen (k := (3 * (k20 + 1) + 35 * k9 + 0)) (n := (18 * (k20 + 1) + 210 * k9 + 0)) (by omega) (by omega) ?_
                exact ih20 (k20 + 1) (by omega) w M8068 F8068 hL8068 (by omega) (zany_step hdr hw) _ _ _ Wd (lv_sub hl [2, 3, 4, 5, 1, 0] rfl)
              refine z_iload C0 hl 5 rfl dL_hares_37 ?_
              refine z_if_ne C0 (tgt := 63) (zR_mk (by omega) (by omega)) dL_hares_39 (by decide) (fun c61 => ?_) (fun c61 => ?_)
              · skip
                refine z_iconst C0 dL_hares_63 ?_
                refine z_goto C0 (tgt := 68) dL_hares_64 (by decide) ?_
                refine W.widen (k := (3 * k20 + 35 * k9 + 3)) (n := (18 * k20 + 210 * k9 + 18)) (by omega) (by omega) ?_
                exact jn68 1 M59 F59 hL59 (by first | exact Or.inl ⟨rfl, Or.inl (by omega)⟩ | exact Or.inl ⟨rfl, Or.inr ⟨by omega, by omega⟩⟩ | exact Or.inr ⟨rfl, by omega, by omega⟩) _ _ _ Wd (lv_sub hl [1, 2, 3, 4, 5, 6, 0] rfl)
              · skip
                refine z_aload_n C0 hl 1 rfl dL_hares_42 ?_
                refine z_iload C0 hl 0 rfl dL_hares_43 ?_
                refine z_invSH (As := [.ref (ad 0), .int (zI (V (96 + 47 * (k20 : Int) + 0)))]) (rest := []) C0 Wd hst (hq_state l g zX ad M59 F59 hL59 (V (96 + 47 * (k20 : Int) + 0)) hr59 ) hs_state zk_883 rfl hl.1 rfl (Nat.le_of_ble_eq_true rfl) (by decide) ⟨by show _ ≤ 217; omega, by show _ ≤ 1302; omega⟩ dL_hares_45 (fun k62 M62 F62 H locs hr62 hp62 Wd => ?_)
                obtain ⟨rfl, hQ62⟩ := hp62
                have hL62 := hQ62.1
                obtain ⟨he63, hr62⟩ : (qMs V 4 (V (96 + 47 * (k20 : Int) + 0))) = (V (96 + 47 * (k20 : Int) + 4)) ∧ zR (V (96 + 47 * (k20 : Int) + 4)) := (fun q => ⟨q, q ▸ hr62⟩) (qMs_at hL ⟨by omega, by omega⟩)
                refine z_top (congrArg zI he63) ?_
                clear he63
                refine z_bipush C0 dL_hares_48 (by decide) ?_
                refine z_icmp_ne C0 (tgt := 67) hr62 (zR_mk (by decide) (by decide)) dL_hares_50 (by decide) (fun c64 => ?_) (fun c64 => ?_)
                · skip
                  refine z_iconst C0 dL_hares_67 ?_
                  refine W.widen (k := (3 * k20 + 35 * k9 + 3)) (n := (18 * k20 + 210 * k9 + 18)) (by omega) (by omega) ?_
                  exact jn68 0 M62 F62 hL62 (by first | exact Or.inl ⟨rfl, Or.inl (by omega)⟩ | exact Or.inl ⟨rfl, Or.inr ⟨by omega, by omega⟩⟩ | exact Or.inr ⟨rfl, by omega, by omega⟩) _ _ _ Wd (lv_sub hl [1, 2, 3, 4, 5, 6, 0] rfl)
                · skip
                  refine z_aload_n C0 hl 1 rfl dL_hares_53 ?_
                  refine z_iload C0 hl 0 rfl dL_hares_54 ?_
                  refine z_invSH (As := [.ref (ad 0), .int (zI (V (96 + 47 * (k20 : Int) + 0)))]) (rest := []) C0 Wd hst (hq_sender l g zX ad M62 F62 hL62 (V (96 + 47 * (k20 : Int) + 0)) hr59 ) hs_sender zk_899 rfl hl.1 rfl (Nat.le_of_ble_eq_true rfl) (by decide) ⟨by show _ ≤ 217; omega, by show _ ≤ 1302; omega⟩ dL_hares_56 (fun k65 M65 F65 H locs hr65 hp65 Wd => ?_)
                  obtain ⟨rfl, hQ65⟩ := hp65
                  have hL65 := hQ65.1
                  obtain ⟨he66, hr65⟩ : (qMs V 1 (V (96 + 47 * (k20 : Int) + 0))) = (V (96 + 47 * (k20 : Int) + 1)) ∧ zR (V (96 + 47 * (k20 : Int) + 1)) := (fun q => ⟨q, q ▸ hr65⟩) (qMs_at hL ⟨by omega, by omega⟩)
                  refine z_top (congrArg zI he66) ?_
                  clear he66
                  refine z_iload_n C0 hl 4 rfl dL_hares_59 ?_
                  refine z_icmp_ne C0 (tgt := 67) hr65 (zR_mk (by omega) (by omega)) dL_hares_60 (by decide) (fun c67 => ?_) (fun c67 => ?_)
                  · skip
                    refine z_iconst C0 dL_hares_67 ?_
                    refine W.widen (k := (3 * k20 + 35 * k9 + 3)) (n := (18 * k20 + 210 * k9 + 18)) (by omega) (by omega) ?_
                    exact jn68 0 M65 F65 hL65 (by first | exact Or.inl ⟨rfl, Or.inl (by omega)⟩ | exact Or.inl ⟨rfl, Or.inr ⟨by omega, by omega⟩⟩ | exact Or.inr ⟨rfl, by omega, by omega⟩) _ _ _ Wd (lv_sub hl [1, 2, 3, 4, 5, 6, 0] rfl)
                  · skip
                    refine z_iconst C0 dL_hares_63 ?_
                    refine z_goto C0 (tgt := 68) dL_hares_64 (by decide) ?_
                    refine W.widen (k := (3 * k20 + 35 * k9 + 3)) (n := (18 * k20 + 210 * k9 + 18)) (by omega) (by omega) ?_
                    exact jn68 1 M65 F65 hL65 (by first | exact Or.inl ⟨rfl, Or.inl (by omega)⟩ | exact Or.inl ⟨rfl, Or.inr ⟨by omega, by omega⟩⟩ | exact Or.inr ⟨rfl, by omega, by omega⟩) _ _ _ Wd (lv_sub hl [1, 2, 3, 4, 5, 6, 0] rfl)
        refine W.widen (k := (3 * 0 + 35 * k9 + 0)) (n := (18 * 0 + 210 * k9 + 0)) (by omega) (by omega) ?_
        exact lp20 (V 2).toNat 0 (by omega) 0 M9009 F9009 hL9009 (Or.inl rfl) rfl _ _ _ Wd (lv_sub hl [2, 3, 4, 5, 1, 0] rfl)
  refine W.widen (k := (35 * 0 + 0)) (n := (210 * 0 + 0)) (by omega) (by omega) ?_
  exact lp9 (V 1).toNat 0 (by omega) 0 M1 F1 hL1 rfl _ _ _ Wd (lv_sub hl [3, 2, 1, 0] rfl)
