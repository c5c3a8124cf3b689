/-! the ways -/
section ZF
variable {t many : Int} {V : Int → Int} {U : Int → Int → Int} {M F : zMem}
theorem zc8_in (hL : zLw t many V U M F) {a : Int} (h : zisC V a) : zc8 a := ⟨h.1, by have := h.2; have := hL.v0; omega⟩
theorem zLd_w (hL : zLw t many V U M F) {a b : Int} (h : zisC V a ∧ zisC V b) (hn : ¬ a = b) : (qSh V a b < 0 → FP.fconst0 = zLd a b V) ∧ (0 ≤ qSh V a b → FP.fdiv FP.fconst1 (FP.fadd FP.fconst1 (FP.i2f (zI (qSh V a b)))) = zLd a b V) := by
  unfold zLd zfl
  rw [if_neg hn]
  rcases qSh_in hL h with ⟨z, e⟩ | ⟨z, e, z1, z2⟩
  · exact ⟨fun _ => by rw [if_pos e], fun q => by omega⟩
  · exact ⟨fun q => by omega, fun _ => by rw [if_neg e, z]⟩
theorem qSh_9 (hL : zLw t many V U M F) {a b : Int} (h : zisC V a ∧ zisC V b) : -13 ≤ qSh V a b ∧ qSh V a b ≤ 63 := by
  rcases qSh_in hL h with ⟨z, -⟩ | ⟨z, -, z1, z2⟩ <;> omega
theorem zf_sh {x : Int} (h0 : 0 ≤ x) (h1 : x ≤ 63) : vf_n32 (FP.fadd FP.fconst1 (FP.i2f (zI x))) ∧ vf_n32 (FP.fdiv FP.fconst1 (FP.fadd FP.fconst1 (FP.i2f (zI x)))) :=
  ⟨zf_ok32 (zf_add32 zf_c1 (zf_i232 (by rw [zI_toInt (by omega) (by omega)]; omega))), zf_ok32 (zf_div32 zf_c1 (zf_dv h0 (by omega)))⟩
theorem qDl_out {a b : Int} (h : ¬ (zisC V a ∧ zisC V b)) : qDl V a b = -11 := if_neg h
theorem qSh_out {a b : Int} (h : ¬ (zisC V a ∧ zisC V b)) : qSh V a b = -11 := if_neg h
theorem qLb_out {a b : Int} (h : ¬ (zisC V a ∧ zisC V b)) : qLb V a b = -11 := if_neg h
theorem qLb_in {a b : Int} (h : zisC V a ∧ zisC V b) : qLb V a b = (zLd a b V).toInt32.toInt := if_pos h
end ZF
set_option maxHeartbeats 4000000 in
set_option maxRecDepth 100000 in
theorem lw_ways (l : Launch) (g : zG) (zX : va_W) (ad : Int → Nat) (M F : zMem) {t many : Int} {V : Int → Int} {U : Int → Int → Int} (hL : zLw t many V U M F) (h6 : 2 ≤ V 0 ∧ V 0 ≤ 6) (hst : l.stackTraces = false) : zMt l yL_ways cL_ways 9 (some .boolean) 16 85013 510078 g (0, 398, zX) ad [.ref (ad 0)] M F (zPi (fun k M' F' => k = 1 ∧ zLw t many V U M' F')) := by
  refine zMt.of "DrumWarrenLaw" rfl (by decide +kernel) (Nat.le_of_ble_eq_true rfl) (fun {p e s m args below meth c ls} C0 Wd hl hret hlk hin => ?_)
  have hl : lv_has ls 9 [(0, .ref (ad 0))] := hl
  have hn8 := hL.tn
  have hT8 := hL.tT
  refine z_aload_n C0 hl 0 rfl dL_ways_0 ?_
  refine z_invVi (As := []) (rest := []) C0 Wd (hv_chamberCount l g zX ad M F hL) kv_X11_chamberCount zN0 (zE_8 zK0) rfl zk_773 rfl hl.1 rfl (Nat.le_of_ble_eq_true rfl) (by decide) ⟨by show _ ≤ 85013; omega, by show _ ≤ 510078; omega⟩ dL_ways_1 (fun k1 M1 F1 H locs hr1 hp1 Wd => ?_)
  obtain ⟨rfl, hQ1⟩ := hp1
  have hL1 := hQ1.1
  refine z_istore_n C0 hl [(1, .int (zI (V 0))), (0, .ref (ad 0))] (by decide) rfl dL_ways_4 (fun ls hl => ?_)
  refine z_iconst C0 dL_ways_5 ?_
  refine z_istore_n C0 hl [(2, .int (zI 0)), (1, .int (zI (V 0))), (0, .ref (ad 0))] (by decide) rfl dL_ways_6 (fun ls hl => ?_)
  refine z_iconst C0 dL_ways_7 ?_
  refine z_istore_n C0 hl [(3, .int (zI 0)), (2, .int (zI 0)), (1, .int (zI (V 0))), (0, .ref (ad 0))] (by decide) rfl dL_ways_8 (fun ls hl => ?_)
  have hb9 : V 0 ≤ 6 := by omega
  have aft9 : ∀ (k9 : Nat) (hk9 : (k9 : Int) ≤ V 0) (tun : Int) (M9009 F9009 : zMem) (hL9009 : zLw t many V U M9009 F9009) (ht9 : tun = zs2 (zfT V) (V 0).toNat k9) (hx9 : (k9 : Int) = V 0) (H : Heap) (locs : List Loc) (ls : Array Slot) (Wd : zW g (zA (0, 398, zX) ad s.heap.size) s.heap (0, 398, zX) ad M9009 F9009 H locs) (hl : lv_has ls 9 [(0, .ref (ad 0)), (1, .int (zI (V 0))), (2, .int (zI tun)), (3, .int (zI (k9 : Int)))]), W p l e (zrm 16 85013 510078) s m args below meth c H locs (85002) (510012) (zMQ below g (0, 398, zX) ad (zPi (fun k M' F' => k = 1 ∧ zLw t many V U M' F')) args s 85013 510078) (F0 m 253 ls []) := by
    intro k9 hk9 tun M9009 F9009 hL9009 ht9 hx9 H locs ls Wd hl
    have hz9 := zs2_bd (f := zfT V) (m := (V 0).toNat) (fun a b => zb_bd _) (by omega) k9
    have hz8 := zTu_bd V
    have hz7 : tun = 2 * zTu V := by rw [ht9, show k9 = (V 0).toNat by omega]; exact zTu_two hn8 (by omega) (by omega) (by omega)
    replace hl : lv_has ls 9 [(0, .ref (ad 0)), (1, .int (zI (V 0))), (2, .int (zI tun))] := lv_sub hl [0, 1, 2] rfl
    refine z_iload_n C0 hl 2 rfl dL_ways_253 ?_
    refine z_iconst C0 dL_ways_254 ?_
    refine z_aload_n C0 hl 0 rfl dL_ways_255 ?_
    refine z_invVi (As := []) (rest := [.int (zI 2), .int (zI tun)]) C0 Wd (hv_tunnelCount l g zX ad M9009 F9009 hL9009) kv_X11_tunnelCount zN0 (zE_8 zK0) rfl zk_860 rfl hl.1 rfl (Nat.le_of_ble_eq_true rfl) (by decide) ⟨by show _ ≤ 85013; omega, by show _ ≤ 510078; omega⟩ dL_ways_256 (fun k2 M2 F2 H locs hr2 hp2 Wd => ?_)
    obtain ⟨rfl, hQ2⟩ := hp2
    have hL2 := hQ2.1
    refine z_imul C0 dL_ways_259 ?_
    refine z_icmp_ne C0 (tgt := 311) (by rw [ht9]; have := zs2_bd (f := zfT V) (m := (V 0).toNat) (fun a b => zb_bd _) (by omega) k9; exact zR_mk (by omega) (by omega)) (by have q0 := hr2.1; have p0 := hr2.2; exact zR_mk (by omega) (by omega)) dL_ways_260 (by decide) (fun h9 => (by exfalso; omega)) (fun c3 => ?_)
    refine z_aload_n C0 hl 0 rfl dL_ways_263 ?_
    refine z_iload_n C0 hl 1 rfl dL_ways_264 ?_
    refine z_iconst C0 dL_ways_265 ?_
    refine z_invSH (As := [.ref (ad 0), .int (zI (V 0)), .int (zI 0)]) (rest := []) C0 Wd hst (hq_delayOf l g zX ad M2 F2 hL2 (V 0) hr1 0 (zR_mk (by decide) (by decide)) ) hs_delayOf zk_777 rfl hl.1 rfl (Nat.le_of_ble_eq_true rfl) (by decide) ⟨by show _ ≤ 85013; omega, by show _ ≤ 510078; omega⟩ dL_ways_266 (fun k4 M4 F4 H locs hr4 hp4 Wd => ?_)
    obtain ⟨rfl, hQ4⟩ := hp4
    have hL4 := hQ4.1
    obtain ⟨he5, hr4⟩ : (qDl V (V 0) 0) = (-11) ∧ zR (-11) := (fun q => ⟨q, q ▸ hr4⟩) (qDl_out (fun h => by have := h.1.2; omega))
    refine z_top (congrArg zI he5) ?_
    clear he5
    refine z_bipush C0 dL_ways_269 (by decide) ?_
    refine z_icmp_ne C0 (tgt := 311) (zR_mk (by decide) (by decide)) (zR_mk (by decide) (by decide)) dL_ways_271 (by decide) (fun h => absurd h (by decide)) (fun _ => ?_)
    refine z_aload_n C0 hl 0 rfl dL_ways_274 ?_
    refine z_iconst C0 dL_ways_275 ?_
    refine z_iload_n C0 hl 1 rfl dL_ways_276 ?_
    refine z_invSH (As := [.ref (ad 0), .int (zI 0), .int (zI (V 0))]) (rest := []) C0 Wd hst (hq_shortest l g zX ad M4 F4 hL4 0 (zR_mk (by decide) (by decide)) (V 0) hr1 ) hs_shortest zk_793 rfl hl.1 rfl (Nat.le_of_ble_eq_true rfl) (by decide) ⟨by show _ ≤ 85013; omega, by show _ ≤ 510078; omega⟩ dL_ways_277 (fun k7 M7 F7 H locs hr7 hp7 Wd => ?_)
    obtain ⟨rfl, hQ7⟩ := hp7
    have hL7 := hQ7.1
    obtain ⟨he8, hr7⟩ : (qSh V 0 (V 0)) = (-11) ∧ zR (-11) := (fun q => ⟨q, q ▸ hr7⟩) (qSh_out (fun h => by have := h.2.2; omega))
    refine z_top (congrArg zI he8) ?_
    clear he8
    refine z_bipush C0 dL_ways_280 (by decide) ?_
    refine z_icmp_ne C0 (tgt := 311) (zR_mk (by decide) (by decide)) (zR_mk (by decide) (by decide)) dL_ways_282 (by decide) (fun h => absurd h (by decide)) (fun _ => ?_)
    refine z_aload_n C0 hl 0 rfl dL_ways_285 ?_
    refine z_iconst C0 dL_ways_286 ?_
    refine z_iconst C0 dL_ways_287 ?_
    refine z_invSH (As := [.ref (ad 0), .int (zI (-1)), .int (zI 0)]) (rest := []) C0 Wd hst (hq_bySearch l g zX ad M7 F7 hL7 (-1) (zR_mk (by decide) (by decide)) 0 (zR_mk (by decide) (by decide)) ) hs_bySearch zk_816 rfl hl.1 rfl (Nat.le_of_ble_eq_true rfl) (by decide) ⟨by show _ ≤ 85013; omega, by show _ ≤ 510078; omega⟩ dL_ways_288 (fun k10 M10 F10 H locs hr10 hp10 Wd => ?_)
    obtain ⟨rfl, hQ10⟩ := hp10
    have hL10 := hQ10.1
    obtain ⟨he11, hr10⟩ : (qSh V (-1) 0) = (-11) ∧ zR (-11) := (fun q => ⟨q, q ▸ hr10⟩) (qSh_out (fun h => by have := h.1.1; omega))
    refine z_top (congrArg zI he11) ?_
    clear he11
    refine z_bipush C0 dL_ways_291 (by decide) ?_
    refine z_icmp_ne C0 (tgt := 311) (zR_mk (by decide) (by decide)) (zR_mk (by decide) (by decide)) dL_ways_293 (by decide) (fun h => absurd h (by decide)) (fun _ => ?_)
    refine z_aload_n C0 hl 0 rfl dL_ways_296 ?_
    refine z_iload_n C0 hl 1 rfl dL_ways_297 ?_
    refine z_iconst C0 dL_ways_298 ?_
    refine z_invSH (As := [.ref (ad 0), .int (zI (V 0)), .int (zI 0)]) (rest := []) C0 Wd hst (hq_loudBits l g zX ad M10 F10 hL10 (V 0) hr1 0 (zR_mk (by decide) (by decide)) ) hs_loudBits zk_835 rfl hl.1 rfl (Nat.le_of_ble_eq_true rfl) (by decide) ⟨by show _ ≤ 85013; omega, by show _ ≤ 510078; omega⟩ dL_ways_299 (fun k13 M13 F13 H locs hr13 hp13 Wd => ?_)
    obtain ⟨rfl, hQ13⟩ := hp13
    have hL13 := hQ13.1
    obtain ⟨he14, hr13⟩ : (qLb V (V 0) 0) = (-11) ∧ zR (-11) := (fun q => ⟨q, q ▸ hr13⟩) (qLb_out (fun h => by have := h.1.2; omega))
    refine z_top (congrArg zI he14) ?_
    clear he14
    refine z_bipush C0 dL_ways_302 (by decide) ?_
    refine z_icmp_ne C0 (tgt := 311) (zR_mk (by decide) (by decide)) (zR_mk (by decide) (by decide)) dL_ways_304 (by decide) (fun h => absurd h (by decide)) (fun _ => ?_)
    refine z_iconst C0 dL_ways_307 ?_
    refine z_goto C0 (tgt := 312) dL_ways_308 (by decide) ?_
    refine W.widen (k := 85013) (n := 510078) (by omega) (by omega) ?_
    exact z_zret C0 Wd hret hlk (by first | exact Or.inl rfl | exact Or.inr rfl) ⟨rfl, hL13⟩ dL_ways_312
  have lp9 : ∀ (d9 k9 : Nat) (hk9 : (k9 : Int) + d9 = V 0) (tun : Int) (M9009 F9009 : zMem) (hL9009 : zLw t many V U M9009 F9009) (ht9 : tun = zs2 (zfT V) (V 0).toNat k9) (H : Heap) (locs : List Loc) (ls : Array Slot) (Wd : zW g (zA (0, 398, zX) ad s.heap.size) s.heap (0, 398, zX) ad M9009 F9009 H locs) (hl : lv_has ls 9 [(0, .ref (ad 0)), (1, .int (zI (V 0))), (2, .int (zI tun)), (3, .int (zI (k9 : Int)))]), W p l e (zrm 16 85013 510078) s m args below meth c H locs (14167 * k9 + 0) (85002 * k9 + 0) (zMQ below g (0, 398, zX) ad (zPi (fun k M' F' => k = 1 ∧ zLw t many V U M' F')) args s 85013 510078) (F0 m 9 ls []) := by
    intro d9
    induction d9 with
    | zero =>
      intro k9 hk9 tun M9009 F9009 hL9009 ht9 H locs ls Wd hl
      refine z_iload_n C0 hl 3 rfl dL_ways_9 ?_
      refine z_iload_n C0 hl 1 rfl dL_ways_10 ?_
      refine z_icmp_ge C0 (tgt := 253) (zR_mk (by omega) (by omega)) hr1 dL_ways_11 (by decide) (fun c16 => ?_) (fun c16 => ?_)
      · skip
        refine W.widen (k := (85002)) (n := (510012)) (by omega) (by omega) ?_
        exact aft9 k9 (by omega) tun M9009 F9009 hL9009 (by first | assumption | omega) (by first | assumption | omega) _ _ _ Wd (lv_sub hl [0, 1, 2, 3] rfl)
      · skip
        exfalso; omega
    | succ d9 ih9 =>
      intro k9 hk9 tun M9009 F9009 hL9009 ht9 H locs ls Wd hl
      refine z_iload_n C0 hl 3 rfl dL_ways_9 ?_
      refine z_iload_n C0 hl 1 rfl dL_ways_10 ?_
      refine z_icmp_ge C0 (tgt := 253) (zR_mk (by omega) (by omega)) hr1 dL_ways_11 (by decide) (fun c17 => ?_) (fun c17 => ?_)
      · skip
        exfalso; omega
      · skip
        refine z_fconst0 C0 dL_ways_14 ?_
        refine z_fstore C0 hl [(4, .float FP.fconst0), (0, .ref (ad 0)), (1, .int (zI (V 0))), (2, .int (zI tun)), (3, .int (zI (k9 : Int)))] (by decide) rfl dL_ways_15 (fun ls hl => ?_)
        refine z_iconst C0 dL_ways_17 ?_
        refine z_istore C0 hl [(5, .int (zI 0)), (4, .float FP.fconst0), (0, .ref (ad 0)), (1, .int (zI (V 0))), (2, .int (zI tun)), (3, .int (zI (k9 : Int)))] (by decide) rfl dL_ways_18 (fun ls hl => ?_)
        have hb20 : V 0 ≤ 6 := by omega
        have aft20 : ∀ (k20 : Nat) (hk20 : (k20 : Int) ≤ V 0) (tun2 : Int) (M9020 F9020 : zMem) (hL9020 : zLw t many V U M9020 F9020) (ht20 : tun2 = zs2 (zfT V) (V 0).toNat k9 + zs1 (zfT V) k9 k20) (hx20 : (k20 : Int) = V 0) (H : Heap) (locs : List Loc) (ls : Array Slot) (Wd : zW g (zA (0, 398, zX) ad s.heap.size) s.heap (0, 398, zX) ad M9020 F9020 H locs) (hl : lv_has ls 9 [(0, .ref (ad 0)), (1, .int (zI (V 0))), (2, .int (zI tun2)), (3, .int (zI (k9 : Int))), (4, .float (zMls (k9 : Int) V k20)), (5, .int (zI (k20 : Int)))]), W p l e (zrm 16 85013 510078) s m args below meth c H locs (14167 * k9 + 14166) (85002 * k9 + 84996) (zMQ below g (0, 398, zX) ad (zPi (fun k M' F' => k = 1 ∧ zLw t many V U M' F')) args s 85013 510078) (F0 m 231 ls []) := by
          intro k20 hk20 tun2 M9020 F9020 hL9020 ht20 hx20 H locs ls Wd hl
          replace hl : lv_has ls 9 [(0, .ref (ad 0)), (1, .int (zI (V 0))), (2, .int (zI tun2)), (3, .int (zI (k9 : Int))), (4, .float (zMls (k9 : Int) V k20))] := lv_sub hl [0, 1, 2, 3, 4] rfl
          refine z_aload_n C0 hl 0 rfl dL_ways_231 ?_
          refine z_iload_n C0 hl 3 rfl dL_ways_232 ?_
          refine z_invQf (As := [.int (zI (k9 : Int))]) (rest := []) C0 Wd hst (hv_meanLoudness l g zX ad M9020 F9020 hL9020 (k9 : Int) (zR_mk (by omega) (by omega)) ⟨by omega, by omega⟩ ) kv_X11_meanLoudness zN0 (zE_8 zK0) rfl zk_856 rfl hl.1 rfl (Nat.le_of_ble_eq_true rfl) (by decide) ⟨by show _ ≤ 85013; omega, by show _ ≤ 510078; omega⟩ dL_ways_233 (fun k18 M18 F18 H locs hp18 Wd => ?_)
          obtain ⟨rfl, hQ18⟩ := hp18
          have hL18 := hQ18.1
          refine z_fload C0 hl 4 rfl dL_ways_236 ?_
          refine z_iload_n C0 hl 1 rfl dL_ways_238 ?_
          refine z_i2f C0 dL_ways_239 ?_
          refine z_fdiv C0 (zf_ok32 (zf_div32 (zMls_ok hT8 ⟨by omega, by omega⟩ k20) (zf_cn (by omega) (by omega)))) dL_ways_240 ?_
          refine z_fcmp C0 (v := 0) (by rw [show k20 = (V 0).toNat by omega]; exact zf_cmpv (zMl_ok hT8 ⟨by omega, by omega⟩ (by omega))) dL_ways_241 ?_
          refine z_if_eq C0 (tgt := 247) (zR_mk (by decide) (by decide)) dL_ways_242 (by decide) (fun _ => ?_) (fun h => absurd h (by decide))
          refine z_iinc C0 hl 3 (t := (k9 : Int)) (u := ((k9 : Int) + 1)) rfl (by omega) [(3, .int (zI ((k9 : Int) + 1))), (0, .ref (ad 0)), (1, .int (zI (V 0))), (2, .int (zI tun2)), (4, .float (zMls (k9 : Int) V k20))] (by decide) rfl dL_ways_247 (fun ls hl => ?_)
          refine z_goto C0 (tgt := 9) dL_ways_250 (by decide) ?_
          refine W.widen (k := (14167 * (k9 + 1) + 0)) (n := (85002 * (k9 + 1) + 0)) (by omega) (by omega) ?_
          exact ih9 (k9 + 1) (by omega) tun2 M18 F18 hL18 (by rw [ht20, show k20 = (V 0).toNat by omega]; rfl) _ _ _ Wd (lv_sub hl [1, 2, 3, 0] rfl)
        have lp20 : ∀ (d20 k20 : Nat) (hk20 : (k20 : Int) + d20 = V 0) (tun2 : Int) (M9020 F9020 : zMem) (hL9020 : zLw t many V U M9020 F9020) (ht20 : tun2 = zs2 (zfT V) (V 0).toNat k9 + zs1 (zfT V) k9 k20) (H : Heap) (locs : List Loc) (ls : Array Slot) (Wd : zW g (zA (0, 398, zX) ad s.heap.size) s.heap (0, 398, zX) ad M9020 F9020 H locs) (hl : lv_has ls 9 [(0, .ref (ad 0)), (1, .int (zI (V 0))), (2, .int (zI tun2)), (3, .int (zI (k9 : Int))), (4, .float (zMls (k9 : Int) V k20)), (5, .int (zI (k20 : Int)))]), W p l e (zrm 16 85013 510078) s m args below meth c H locs (2361 * k20 + 14167 * k9 + 0) (14166 * k20 + 85002 * k9 + 0) (zMQ below g (0, 398, zX) ad (zPi (fun k M' F' => k = 1 ∧ zLw t many V U M' F')) args s 85013 510078) (F0 m 20 ls []) := by
          intro d20
          induction d20 with
          | zero =>
            intro k20 hk20 tun2 M9020 F9020 hL9020 ht20 H locs ls Wd hl
            refine z_iload C0 hl 5 rfl dL_ways_20 ?_
            refine z_iload_n C0 hl 1 rfl dL_ways_22 ?_
            refine z_icmp_ge C0 (tgt := 231) (zR_mk (by omega) (by omega)) hr1 dL_ways_23 (by decide) (fun c20 => ?_) (fun c20 => ?_)
            · skip
              refine W.widen (k := (14167 * k9 + 14166)) (n := (85002 * k9 + 84996)) (by omega) (by omega) ?_
              exact aft20 k20 (by omega) tun2 M9020 F9020 hL9020 (by first | assumption | omega) (by first | assumption | omega) _ _ _ Wd (lv_sub hl [0, 1, 2, 3, 4, 5] rfl)
            · skip
              exfalso; omega
          | succ d20 ih20 =>
            intro k20 hk20 tun2 M9020 F9020 hL9020 ht20 H locs ls Wd hl
            refine z_iload C0 hl 5 rfl dL_ways_20 ?_
            refine z_iload_n C0 hl 1 rfl dL_ways_22 ?_
            refine z_icmp_ge C0 (tgt := 231) (zR_mk (by omega) (by omega)) hr1 dL_ways_23 (by decide) (fun c21 => ?_) (fun c21 => ?_)
            · skip
              exfalso; omega
            · skip
              refine z_aload_n C0 hl 0 rfl dL_ways_26 ?_
              refine z_iload_n C0 hl 3 rfl dL_ways_27 ?_
              refine z_iload C0 hl 5 rfl dL_ways_28 ?_
              refine z_invSH (As := [.ref (ad 0), .int (zI (k9 : Int)), .int (zI (k20 : Int))]) (rest := []) C0 Wd hst (hq_delayOf l g zX ad M9020 F9020 hL9020 (k9 : Int) (zR_mk (by omega) (by omega)) (k20 : Int) (zR_mk (by omega) (by omega)) ) hs_delayOf zk_777 rfl hl.1 rfl (Nat.le_of_ble_eq_true rfl) (by decide) ⟨by show _ ≤ 85013; omega, by show _ ≤ 510078; omega⟩ dL_ways_30 (fun k22 M22 F22 H locs hr22 hp22 Wd => ?_)
              obtain ⟨rfl, hQ22⟩ := hp22
              have hL22 := hQ22.1
              refine z_istore C0 hl [(6, .int (zI (qDl V (k9 : Int) (k20 : Int)))), (0, .ref (ad 0)), (1, .int (zI (V 0))), (2, .int (zI tun2)), (3, .int (zI (k9 : Int))), (4, .float (zMls (k9 : Int) V k20)), (5, .int (zI (k20 : Int)))] (by decide) rfl dL_ways_33 (fun ls hl => ?_)
              have jn60 : ∀ (nr : Int) (M8060 F8060 : zMem) (hL8060 : zLw t many V U M8060 F8060) (hnr : zR nr) (hn1 : (if nr = 999 then (-13 : Int) else nr) = qSh V (k9 : Int) (k20 : Int)) (H : Heap) (locs : List Loc) (ls : Array Slot) (Wd : zW g (zA (0, 398, zX) ad s.heap.size) s.heap (0, 398, zX) ad M8060 F8060 H locs) (hl : lv_has ls 9 [(0, .ref (ad 0)), (1, .int (zI (V 0))), (2, .int (zI tun2)), (3, .int (zI (k9 : Int))), (4, .float (zMls (k9 : Int) V k20)), (5, .int (zI (k20 : Int))), (6, .int (zI (qDl V (k9 : Int) (k20 : Int))))]), W p l e (zrm 16 85013 510078) s m args below meth c H locs (2361 * k20 + 14167 * k9 + 2346) (14166 * k20 + 85002 * k9 + 14076) (zMQ below g (0, 398, zX) ad (zPi (fun k M' F' => k = 1 ∧ zLw t many V U M' F')) args s 85013 510078) (F0 m 60 ls [.int (zI nr)]) := by
                intro nr M8060 F8060 hL8060 hnr hn1 H locs ls Wd hl
                refine z_istore C0 hl [(7, .int (zI nr)), (0, .ref (ad 0)), (1, .int (zI (V 0))), (2, .int (zI tun2)), (3, .int (zI (k9 : Int))), (4, .float (zMls (k9 : Int) V k20)), (5, .int (zI (k20 : Int))), (6, .int (zI (qDl V (k9 : Int) (k20 : Int))))] (by decide) rfl dL_ways_60 (fun ls hl => ?_)
                have jn77 : ∀ (M8077 F8077 : zMem) (hL8077 : zLw t many V U M8077 F8077) (H : Heap) (locs : List Loc) (ls : Array Slot) (Wd : zW g (zA (0, 398, zX) ad s.heap.size) s.heap (0, 398, zX) ad M8077 F8077 H locs) (hl : lv_has ls 9 [(0, .ref (ad 0)), (1, .int (zI (V 0))), (2, .int (zI tun2)), (3, .int (zI (k9 : Int))), (4, .float (zMls (k9 : Int) V k20)), (5, .int (zI (k20 : Int))), (6, .int (zI (qDl V (k9 : Int) (k20 : Int)))), (7, .int (zI nr))]), W p l e (zrm 16 85013 510078) s m args below meth c H locs (2361 * k20 + 14167 * k9 + 2346) (14166 * k20 + 85002 * k9 + 14076) (zMQ below g (0, 398, zX) ad (zPi (fun k M' F' => k = 1 ∧ zLw t many V U M' F')) args s 85013 510078) (F0 m 77 ls [.int (zI (qSh V (k9 : Int) (k20 : Int)))]) := by
                  intro M8077 F8077 hL8077 H locs ls Wd hl
                  refine z_istore C0 hl [(7, .int (zI (qSh V (k9 : Int) (k20 : Int)))), (0, .ref (ad 0)), (1, .int (zI (V 0))), (2, .int (zI tun2)), (3, .int (zI (k9 : Int))), (4, .float (zMls (k9 : Int) V k20)), (5, .int (zI (k20 : Int))), (6, .int (zI (qDl V (k9 : Int) (k20 : Int))))] (by decide) rfl dL_ways_77 (fun ls hl => ?_)
                  have jn105 : ∀ (M8105 F8105 : zMem) (hL8105 : zLw t many V U M8105 F8105) (H : Heap) (locs : List Loc) (ls : Array Slot) (Wd : zW g (zA (0, 398, zX) ad s.heap.size) s.heap (0, 398, zX) ad M8105 F8105 H locs) (hl : lv_has ls 9 [(0, .ref (ad 0)), (1, .int (zI (V 0))), (2, .int (zI tun2)), (3, .int (zI (k9 : Int))), (4, .float (zMls (k9 : Int) V k20)), (5, .int (zI (k20 : Int))), (6, .int (zI (qDl V (k9 : Int) (k20 : Int)))), (7, .int (zI (qSh V (k9 : Int) (k20 : Int))))]), W p l e (zrm 16 85013 510078) s m args below meth c H locs (2361 * k20 + 14167 * k9 + 2346) (14166 * k20 + 85002 * k9 + 14076) (zMQ below g (0, 398, zX) ad (zPi (fun k M' F' => k = 1 ∧ zLw t many V U M' F')) args s 85013 510078) (F0 m 105 ls [.float (zLd (k9 : Int) (k20 : Int) V)]) := by
                    intro M8105 F8105 hL8105 H locs ls Wd hl
                    refine z_fstore C0 hl [(8, .float (zLd (k9 : Int) (k20 : Int) V)), (0, .ref (ad 0)), (1, .int (zI (V 0))), (2, .int (zI tun2)), (3, .int (zI (k9 : Int))), (4, .float (zMls (k9 : Int) V k20)), (5, .int (zI (k20 : Int))), (6, .int (zI (qDl V (k9 : Int) (k20 : Int)))), (7, .int (zI (qSh V (k9 : Int) (k20 : Int))))] (by decide) rfl dL_ways_105 (fun ls hl => ?_)
                    refine z_iload_n C0 hl 3 rfl dL_ways_107 ?_
                    have jn118 : ∀ (M8118 F8118 : zMem) (hL8118 : zLw t many V U M8118 F8118) (H : Heap) (locs : List Loc) (ls : Array Slot) (Wd : zW g (zA (0, 398, zX) ad s.heap.size) s.heap (0, 398, zX) ad M8118 F8118 H locs) (hl : lv_has ls 9 [(0, .ref (ad 0)), (1, .int (zI (V 0))), (2, .int (zI tun2)), (3, .int (zI (k9 : Int))), (4, .float (zMls (k9 : Int) V k20)), (5, .int (zI (k20 : Int))), (6, .int (zI (qDl V (k9 : Int) (k20 : Int)))), (7, .int (zI (qSh V (k9 : Int) (k20 : Int)))), (8, .float (zLd (k9 : Int) (k20 : Int) V))]), W p l e (zrm 16 85013 510078) s m args below meth c H locs (2361 * k20 + 14167 * k9 + 2346) (14166 * k20 + 85002 * k9 + 14076) (zMQ below g (0, 398, zX) ad (zPi (fun k M' F' => k = 1 ∧ zLw t many V U M' F')) args s 85013 510078) (F0 m 118 ls [.int (zI (zb (0 < qDl V (k9 : Int) (k20 : Int)))), .int (zI tun2)]) := by
                      intro M8118 F8118 hL8118 H locs ls Wd hl
                      refine z_iadd C0 dL_ways_118 ?_
                      refine z_istore_n C0 hl [(2, .int (zI (tun2 + zb (0 < qDl V (k9 : Int) (k20 : Int))))), (0, .ref (ad 0)), (1, .int (zI (V 0))), (3, .int (zI (k9 : Int))), (4, .float (zMls (k9 : Int) V k20)), (5, .int (zI (k20 : Int))), (6, .int (zI (qDl V (k9 : Int) (k20 : Int)))), (7, .int (zI (qSh V (k9 : Int) (k20 : Int)))), (8, .float (zLd (k9 : Int) (k20 : Int) V))] (by decide) rfl dL_ways_119 (fun ls hl => ?_)
                      refine z_fload C0 hl 4 rfl dL_ways_120 ?_
                      refine z_aload_n C0 hl 1 rfl dL_ways_122 ?_
                      refine z_iload C0 hl 5 rfl dL_ways_123 ?_
                      refine z_iload_n C0 hl 3 rfl dL_ways_125 ?_
                      refine z_invQf (As := [.int (zI (k20 : Int)), .int (zI (k9 : Int))]) (rest := [.float (zMls (k9 : Int) V k20)]) C0 Wd hst (hv_loudness l g zX ad M8118 F8118 hL8118 (k20 : Int) (zR_mk (by omega) (by omega)) (k9 : Int) (zR_mk (by omega) (by omega)) ⟨⟨by omega, by omega⟩, by omega, by omega⟩ ) kv_X11_loudness zN0 (zE_8 zK0) rfl zk_809 rfl hl.1 rfl (Nat.le_of_ble_eq_true rfl) (by decide) ⟨by show _ ≤ 85013; omega, by show _ ≤ 510078; omega⟩ dL_ways_126 (fun k23 M23 F23 H locs hp23 Wd => ?_)
                      obtain ⟨rfl, hQ23⟩ := hp23
                      have hL23 := hQ23.1
                      refine z_fadd C0 (zf_ok32 (zf_add32 (zMls_ok hT8 ⟨by omega, by omega⟩ k20) (zLd_ok hT8 ⟨by omega, by omega⟩))) dL_ways_129 ?_
                      refine z_fstore C0 hl [(4, .float (FP.fadd (zMls (k9 : Int) V k20) (zLd (k20 : Int) (k9 : Int) V))), (2, .int (zI (tun2 + zb (0 < qDl V (k9 : Int) (k20 : Int))))), (0, .ref (ad 0)), (1, .int (zI (V 0))), (3, .int (zI (k9 : Int))), (5, .int (zI (k20 : Int))), (6, .int (zI (qDl V (k9 : Int) (k20 : Int)))), (7, .int (zI (qSh V (k9 : Int) (k20 : Int)))), (8, .float (zLd (k9 : Int) (k20 : Int) V))] (by decide) rfl dL_ways_130 (fun ls hl => ?_)
                      refine z_iload C0 hl 6 rfl dL_ways_132 ?_
                      refine z_aload_n C0 hl 2 rfl dL_ways_134 ?_
                      refine z_iload C0 hl 5 rfl dL_ways_135 ?_
                      refine z_iload_n C0 hl 4 rfl dL_ways_137 ?_
                      refine z_invSH (As := [.ref (ad 0), .int (zI (k20 : Int)), .int (zI (k9 : Int))]) (rest := [.int (zI (qDl V (k9 : Int) (k20 : Int)))]) C0 Wd hst (hq_delayOf l g zX ad M23 F23 hL23 (k20 : Int) (zR_mk (by omega) (by omega)) (k9 : Int) (zR_mk (by omega) (by omega)) ) hs_delayOf zk_777 rfl hl.1 rfl (Nat.le_of_ble_eq_true rfl) (by decide) ⟨by show _ ≤ 85013; omega, by show _ ≤ 510078; omega⟩ dL_ways_138 (fun k24 M24 F24 H locs hr24 hp24 Wd => ?_)
                      obtain ⟨rfl, hQ24⟩ := hp24
                      have hL24 := hQ24.1
                      refine z_icmp_ne C0 (tgt := 181) hr22 hr24 dL_ways_141 (by decide) (fun h9 => (by exfalso; exact h9 (qDl_sy hL ⟨⟨by omega, by omega⟩, by omega, by omega⟩).symm)) (fun c25 => ?_)
                      have jn157 : ∀ (M8157 F8157 : zMem) (hL8157 : zLw t many V U M8157 F8157) (H : Heap) (locs : List Loc) (ls : Array Slot) (Wd : zW g (zA (0, 398, zX) ad s.heap.size) s.heap (0, 398, zX) ad M8157 F8157 H locs) (hl : lv_has ls 9 [(0, .ref (ad 0)), (1, .int (zI (V 0))), (2, .int (zI (tun2 + zb (0 < qDl V (k9 : Int) (k20 : Int))))), (3, .int (zI (k9 : Int))), (4, .float (FP.fadd (zMls (k9 : Int) V k20) (zLd (k20 : Int) (k9 : Int) V))), (5, .int (zI (k20 : Int))), (6, .int (zI (qDl V (k9 : Int) (k20 : Int)))), (7, .int (zI (qSh V (k9 : Int) (k20 : Int)))), (8, .float (zLd (k9 : Int) (k20 : Int) V))]), W p l e (zrm 16 85013 510078) s m args below meth c H locs (2361 * k20 + 14167 * k9 + 2351) (14166 * k20 + 85002 * k9 + 14106) (zMQ below g (0, 398, zX) ad (zPi (fun k M' F' => k = 1 ∧ zLw t many V U M' F')) args s 85013 510078) (F0 m 157 ls []) := by
                        intro M8157 F8157 hL8157 H locs ls Wd hl
                        refine z_aload_n C0 hl 0 rfl dL_ways_157 ?_
                        refine z_iload_n C0 hl 3 rfl dL_ways_158 ?_
                        refine z_iload C0 hl 5 rfl dL_ways_159 ?_
                        refine z_invSH (As := [.ref (ad 0), .int (zI (k9 : Int)), .int (zI (k20 : Int))]) (rest := []) C0 Wd hst (hq_shortest l g zX ad M8157 F8157 hL8157 (k9 : Int) (zR_mk (by omega) (by omega)) (k20 : Int) (zR_mk (by omega) (by omega)) ) hs_shortest zk_793 rfl hl.1 rfl (Nat.le_of_ble_eq_true rfl) (by decide) ⟨by show _ ≤ 85013; omega, by show _ ≤ 510078; omega⟩ dL_ways_161 (fun k26 M26 F26 H locs hr26 hp26 Wd => ?_)
                        obtain ⟨rfl, hQ26⟩ := hp26
                        have hL26 := hQ26.1
                        refine z_iload C0 hl 7 rfl dL_ways_164 ?_
                        refine z_icmp_ne C0 (tgt := 181) hr26 (by have := qSh_9 hL (a := (k9 : Int)) (b := (k20 : Int)) ⟨⟨by omega, by omega⟩, by omega, by omega⟩; exact zR_mk (by omega) (by omega)) dL_ways_166 (by decide) (fun h9 => (by exfalso; exact h9 rfl)) (fun c27 => ?_)
                        refine z_aload_n C0 hl 0 rfl dL_ways_169 ?_
                        refine z_iload_n C0 hl 3 rfl dL_ways_170 ?_
                        refine z_iload C0 hl 5 rfl dL_ways_171 ?_
                        refine z_invSH (As := [.ref (ad 0), .int (zI (k9 : Int)), .int (zI (k20 : Int))]) (rest := []) C0 Wd hst (hq_bySearch l g zX ad M26 F26 hL26 (k9 : Int) (zR_mk (by omega) (by omega)) (k20 : Int) (zR_mk (by omega) (by omega)) ) hs_bySearch zk_816 rfl hl.1 rfl (Nat.le_of_ble_eq_true rfl) (by decide) ⟨by show _ ≤ 85013; omega, by show _ ≤ 510078; omega⟩ dL_ways_173 (fun k28 M28 F28 H locs hr28 hp28 Wd => ?_)
                        obtain ⟨rfl, hQ28⟩ := hp28
                        have hL28 := hQ28.1
                        refine z_iload C0 hl 7 rfl dL_ways_176 ?_
                        refine z_icmp_eq C0 (tgt := 183) hr28 (by have := qSh_9 hL (a := (k9 : Int)) (b := (k20 : Int)) ⟨⟨by omega, by omega⟩, by omega, by omega⟩; exact zR_mk (by omega) (by omega)) dL_ways_178 (by decide) (fun c29 => ?_) (fun h9 => (by exfalso; exact h9 rfl))
                        refine z_aload_n C0 hl 0 rfl dL_ways_183 ?_
                        refine z_iload_n C0 hl 3 rfl dL_ways_184 ?_
                        refine z_iload C0 hl 5 rfl dL_ways_185 ?_
                        refine z_invQf (As := [.int (zI (k9 : Int)), .int (zI (k20 : Int))]) (rest := []) C0 Wd hst (hv_loudness l g zX ad M28 F28 hL28 (k9 : Int) (zR_mk (by omega) (by omega)) (k20 : Int) (zR_mk (by omega) (by omega)) ⟨⟨by omega, by omega⟩, by omega, by omega⟩ ) kv_X11_loudness zN0 (zE_8 zK0) rfl zk_809 rfl hl.1 rfl (Nat.le_of_ble_eq_true rfl) (by decide) ⟨by show _ ≤ 85013; omega, by show _ ≤ 510078; omega⟩ dL_ways_187 (fun k30 M30 F30 H locs hp30 Wd => ?_)
                        obtain ⟨rfl, hQ30⟩ := hp30
                        have hL30 := hQ30.1
                        refine z_fload C0 hl 8 rfl dL_ways_190 ?_
                        refine z_fcmp C0 (v := 0) (zf_cmpv (zLd_ok hT8 ⟨by omega, by omega⟩)) dL_ways_192 ?_
                        refine z_if_ne C0 (tgt := 223) (zR_mk (by decide) (by decide)) dL_ways_193 (by decide) (fun h => absurd h (by decide)) (fun _ => ?_)
                        refine z_aload_n C0 hl 0 rfl dL_ways_196 ?_
                        refine z_iload_n C0 hl 3 rfl dL_ways_197 ?_
                        refine z_iload C0 hl 5 rfl dL_ways_198 ?_
                        refine z_invSH (As := [.ref (ad 0), .int (zI (k9 : Int)), .int (zI (k20 : Int))]) (rest := []) C0 Wd hst (hq_loudBits l g zX ad M30 F30 hL30 (k9 : Int) (zR_mk (by omega) (by omega)) (k20 : Int) (zR_mk (by omega) (by omega)) ) hs_loudBits zk_835 rfl hl.1 rfl (Nat.le_of_ble_eq_true rfl) (by decide) ⟨by show _ ≤ 85013; omega, by show _ ≤ 510078; omega⟩ dL_ways_200 (fun k32 M32 F32 H locs hr32 hp32 Wd => ?_)
                        obtain ⟨rfl, hQ32⟩ := hp32
                        have hL32 := hQ32.1
                        obtain ⟨he33, hr32⟩ : (qLb V (k9 : Int) (k20 : Int)) = ((zLd (k9 : Int) (k20 : Int) V).toInt32.toInt) ∧ zR ((zLd (k9 : Int) (k20 : Int) V).toInt32.toInt) := (fun q => ⟨q, q ▸ hr32⟩) (qLb_in ⟨⟨by omega, by omega⟩, by omega, by omega⟩)
                        refine z_top (congrArg zI he33) ?_
                        clear he33
                        refine z_fload C0 hl 8 rfl dL_ways_203 ?_
                        refine z_invSi (As := [.float (zLd (k9 : Int) (k20 : Int) V)]) (rest := [.int (zI ((zLd (k9 : Int) (k20 : Int) V).toInt32.toInt))]) C0 Wd (ct_Jxf58ca_floatToIntBits_5c35a l g (0, 398, zX) zN396 zN397 ad M32 F32 (zLd (k9 : Int) (k20 : Int) V) (zLd_ok hT8 ⟨by omega, by omega⟩)) kv_Jxf58ca_floatToIntBits_5c35a zk_846 rfl hl.1 rfl (Nat.le_of_ble_eq_true rfl) (by decide) ⟨by show _ ≤ 85013; omega, by show _ ≤ 510078; omega⟩ dL_ways_205 (fun k34 M34 F34 H locs hr34 hp34 Wd => ?_)
                        obtain ⟨rfl, rfl, rfl⟩ := hp34
                        refine z_icmp_ne C0 (tgt := 223) hr32 hr34 dL_ways_208 (by decide) (fun h9 => (by exfalso; exact h9 rfl)) (fun c35 => ?_)
                        have jn225 : ∀ (M8225 F8225 : zMem) (hL8225 : zLw t many V U M8225 F8225) (H : Heap) (locs : List Loc) (ls : Array Slot) (Wd : zW g (zA (0, 398, zX) ad s.heap.size) s.heap (0, 398, zX) ad M8225 F8225 H locs) (hl : lv_has ls 9 [(0, .ref (ad 0)), (1, .int (zI (V 0))), (2, .int (zI (tun2 + zb (0 < qDl V (k9 : Int) (k20 : Int))))), (3, .int (zI (k9 : Int))), (4, .float (FP.fadd (zMls (k9 : Int) V k20) (zLd (k20 : Int) (k9 : Int) V))), (5, .int (zI (k20 : Int))), (6, .int (zI (qDl V (k9 : Int) (k20 : Int)))), (7, .int (zI (qSh V (k9 : Int) (k20 : Int)))), (8, .float (zLd (k9 : Int) (k20 : Int) V))]), W p l e (zrm 16 85013 510078) s m args below meth c H locs (2361 * k20 + 14167 * k9 + 2361) (14166 * k20 + 85002 * k9 + 14166) (zMQ below g (0, 398, zX) ad (zPi (fun k M' F' => k = 1 ∧ zLw t many V U M' F')) args s 85013 510078) (F0 m 225 ls []) := by
                          intro M8225 F8225 hL8225 H locs ls Wd hl
                          refine z_iinc C0 hl 5 (t := (k20 : Int)) (u := ((k20 : Int) + 1)) rfl (by omega) [(5, .int (zI ((k20 : Int) + 1))), (0, .ref (ad 0)), (1, .int (zI (V 0))), (2, .int (zI (tun2 + zb (0 < qDl V (k9 : Int) (k20 : Int))))), (3, .int (zI (k9 : Int))), (4, .float (FP.fadd (zMls (k9 : Int) V k20) (zLd (k20 : Int) (k9 : Int) V))), (6, .int (zI (qDl V (k9 : Int) (k20 : Int)))), (7, .int (zI (qSh V (k9 : Int) (k20 : Int)))), (8, .float (zLd (k9 : Int) (k20 : Int) V))] (by decide) rfl dL_ways_225 (fun ls hl => ?_)
                          refine z_goto C0 (tgt := 20) dL_ways_228 (by decide) ?_
                          refine W.widen (k := (2361 * (k20 + 1) + 14167 * k9 + 0)) (n := (14166 * (k20 + 1) + 85002 * k9 + 0)) (by omega) (by omega) ?_
                          exact ih20 (k20 + 1) (by omega) (tun2 + zb (0 < qDl V (k9 : Int) (k20 : Int))) M8225 F8225 hL8225 (by rw [ht20, qDl_zb hL ⟨⟨by omega, by omega⟩, by omega, by omega⟩, Int.add_assoc]; rfl) _ _ _ Wd (lv_sub hl [1, 2, 3, 4, 5, 0] rfl)
                        refine z_iload C0 hl 6 rfl dL_ways_211 ?_
                        refine z_if_le C0 (tgt := 225) hr22 dL_ways_213 (by decide) (fun c36 => ?_) (fun c36 => ?_)
                        · skip
                          refine W.widen (k := (2361 * k20 + 14167 * k9 + 2361)) (n := (14166 * k20 + 85002 * k9 + 14166)) (by omega) (by omega) ?_
                          exact jn225  M32 F32 hL32  _ _ _ Wd (lv_sub hl [0, 1, 2, 3, 4, 5, 6, 7, 8] rfl)
                        · skip
                          refine z_iload C0 hl 7 rfl dL_ways_216 ?_
                          refine z_iload C0 hl 6 rfl dL_ways_218 ?_
                          refine z_icmp_le C0 (tgt := 225) (by have := qSh_9 hL (a := (k9 : Int)) (b := (k20 : Int)) ⟨⟨by omega, by omega⟩, by omega, by omega⟩; exact zR_mk (by omega) (by omega)) hr22 dL_ways_220 (by decide) (fun c37 => ?_) (fun h9 => (by exfalso; have := qSh_le (a := (k9 : Int)) (b := (k20 : Int)) hL ⟨⟨by omega, by omega⟩, by omega, by omega⟩ (by omega); omega))
                          refine W.widen (k := (2361 * k20 + 14167 * k9 + 2361)) (n := (14166 * k20 + 85002 * k9 + 14166)) (by omega) (by omega) ?_
                          exact jn225  M32 F32 hL32  _ _ _ Wd (lv_sub hl [0, 1, 2, 3, 4, 5, 6, 7, 8] rfl)
                      refine z_iload_n C0 hl 4 rfl dL_ways_144 ?_
                      refine z_iload C0 hl 5 rfl dL_ways_145 ?_
                      refine z_icmp_ne C0 (tgt := 157) (zR_mk (by omega) (by omega)) (zR_mk (by omega) (by omega)) dL_ways_147 (by decide) (fun c38 => ?_) (fun c38 => ?_)
                      · skip
                        refine W.widen (k := (2361 * k20 + 14167 * k9 + 2351)) (n := (14166 * k20 + 85002 * k9 + 14106)) (by omega) (by omega) ?_
                        exact jn157  M24 F24 hL24  _ _ _ Wd (lv_sub hl [2, 3, 1, 4, 0, 5, 6, 7, 8] rfl)
                      · skip
                        refine z_iload C0 hl 6 rfl dL_ways_150 ?_
                        refine z_bipush C0 dL_ways_152 (by decide) ?_
                        refine z_icmp_ne C0 (tgt := 181) hr22 (zR_mk (by decide) (by decide)) dL_ways_154 (by decide) (fun h9 => (by exfalso; exact h9 (by have e9 : (k9 : Int) = (k20 : Int) := c38; rw [← e9]; exact qDl_sf hL ⟨by omega, by omega⟩))) (fun c39 => ?_)
                        refine W.widen (k := (2361 * k20 + 14167 * k9 + 2351)) (n := (14166 * k20 + 85002 * k9 + 14106)) (by omega) (by omega) ?_
                        exact jn157  M24 F24 hL24  _ _ _ Wd (lv_sub hl [2, 3, 1, 4, 0, 5, 6, 7, 8] rfl)
                    refine z_iload C0 hl 7 rfl dL_ways_108 ?_
                    refine z_if_le C0 (tgt := 117) hr22 dL_ways_110 (by decide) (fun c40 => ?_) (fun c40 => ?_)
                    · skip
                      refine z_iconst C0 dL_ways_117 ?_
                      refine z_top (congrArg zI (show 0 = zb (0 < qDl V (k9 : Int) (k20 : Int)) from (zb_f (by omega)).symm)) ?_
                      refine W.widen (k := (2361 * k20 + 14167 * k9 + 2346)) (n := (14166 * k20 + 85002 * k9 + 14076)) (by omega) (by omega) ?_
                      exact jn118  M8105 F8105 hL8105  _ _ _ Wd (lv_sub hl [1, 2, 3, 4, 5, 6, 7, 8, 0] rfl)
                    · skip
                      refine z_iconst C0 dL_ways_113 ?_
                      refine z_goto C0 (tgt := 118) dL_ways_114 (by decide) ?_
                      refine z_top (congrArg zI (show 1 = zb (0 < qDl V (k9 : Int) (k20 : Int)) from (zb_t (by omega)).symm)) ?_
                      refine W.widen (k := (2361 * k20 + 14167 * k9 + 2346)) (n := (14166 * k20 + 85002 * k9 + 14076)) (by omega) (by omega) ?_
                      exact jn118  M8105 F8105 hL8105  _ _ _ Wd (lv_sub hl [1, 2, 3, 4, 5, 6, 7, 8, 0] rfl)
                  refine z_iload_n C0 hl 4 rfl dL_ways_79 ?_
                  refine z_iload C0 hl 6 rfl dL_ways_80 ?_
                  refine z_icmp_ne C0 (tgt := 89) (zR_mk (by omega) (by omega)) (zR_mk (by omega) (by omega)) dL_ways_82 (by decide) (fun c41 => ?_) (fun c41 => ?_)
                  · skip
                    refine z_iload C0 hl 0 rfl dL_ways_89 ?_
                    refine z_if_ge C0 (tgt := 98) (by have := qSh_9 hL (a := (k9 : Int)) (b := (k20 : Int)) ⟨⟨by omega, by omega⟩, by omega, by omega⟩; exact zR_mk (by omega) (by omega)) dL_ways_91 (by decide) (fun c42 => ?_) (fun c42 => ?_)
                    · skip
                      refine z_fconst1 C0 dL_ways_98 ?_
                      refine z_fconst1 C0 dL_ways_99 ?_
                      refine z_iload C0 hl 0 rfl dL_ways_100 ?_
                      refine z_i2f C0 dL_ways_102 ?_
                      have hs9 := qSh_9 hL (a := (k9 : Int)) (b := (k20 : Int)) ⟨⟨by omega, by omega⟩, by omega, by omega⟩
                      have hf9 := zf_sh (x := qSh V (k9 : Int) (k20 : Int)) (by omega) (by omega)
                      refine z_fadd C0 hf9.1 dL_ways_103 ?_
                      refine z_fdiv C0 hf9.2 dL_ways_104 ?_
                      refine z_topF (show (FP.fdiv FP.fconst1 (FP.fadd FP.fconst1 (FP.i2f (zI (qSh V (k9 : Int) (k20 : Int)))))) = (zLd (k9 : Int) (k20 : Int) V) from ((zLd_w hL ⟨⟨by omega, by omega⟩, by omega, by omega⟩ c41).2 c42)) ?_
                      refine W.widen (k := (2361 * k20 + 14167 * k9 + 2346)) (n := (14166 * k20 + 85002 * k9 + 14076)) (by omega) (by omega) ?_
                      exact jn105  M8077 F8077 hL8077  _ _ _ Wd (lv_sub hl [1, 2, 3, 4, 5, 6, 7, 0] rfl)
                    · skip
                      refine z_fconst0 C0 dL_ways_94 ?_
                      refine z_goto C0 (tgt := 105) dL_ways_95 (by decide) ?_
                      refine z_topF (show FP.fconst0 = (zLd (k9 : Int) (k20 : Int) V) from ((zLd_w hL ⟨⟨by omega, by omega⟩, by omega, by omega⟩ c41).1 c42)) ?_
                      refine W.widen (k := (2361 * k20 + 14167 * k9 + 2346)) (n := (14166 * k20 + 85002 * k9 + 14076)) (by omega) (by omega) ?_
                      exact jn105  M8077 F8077 hL8077  _ _ _ Wd (lv_sub hl [1, 2, 3, 4, 5, 6, 7, 0] rfl)
                  · skip
                    refine z_fconst1 C0 dL_ways_85 ?_
                    refine z_goto C0 (tgt := 105) dL_ways_86 (by decide) ?_
                    refine z_topF (show FP.fconst1 = (zLd (k9 : Int) (k20 : Int) V) from (by have e9 : (k9 : Int) = (k20 : Int) := c41; unfold zLd; rw [if_pos e9])) ?_
                    refine W.widen (k := (2361 * k20 + 14167 * k9 + 2346)) (n := (14166 * k20 + 85002 * k9 + 14076)) (by omega) (by omega) ?_
                    exact jn105  M8077 F8077 hL8077  _ _ _ Wd (lv_sub hl [1, 2, 3, 4, 5, 6, 7, 0] rfl)
                refine z_iload C0 hl 0 rfl dL_ways_62 ?_
                refine z_sipush C0 dL_ways_64 (by decide) ?_
                refine z_icmp_ne C0 (tgt := 75) hnr (zR_mk (by decide) (by decide)) dL_ways_67 (by decide) (fun c43 => ?_) (fun c43 => ?_)
                · skip
                  refine z_iload C0 hl 0 rfl dL_ways_75 ?_
                  refine z_top (congrArg zI (show nr = (qSh V (k9 : Int) (k20 : Int)) from ((if_neg c43).symm.trans hn1))) ?_
                  refine W.widen (k := (2361 * k20 + 14167 * k9 + 2346)) (n := (14166 * k20 + 85002 * k9 + 14076)) (by omega) (by omega) ?_
                  exact jn77  M8060 F8060 hL8060  _ _ _ Wd (lv_sub hl [1, 2, 3, 4, 5, 6, 7, 0] rfl)
                · skip
                  refine z_bipush C0 dL_ways_70 (by decide) ?_
                  refine z_goto C0 (tgt := 77) dL_ways_72 (by decide) ?_
                  refine z_top (congrArg zI (show (-13) = (qSh V (k9 : Int) (k20 : Int)) from ((if_pos c43).symm.trans hn1))) ?_
                  refine W.widen (k := (2361 * k20 + 14167 * k9 + 2346)) (n := (14166 * k20 + 85002 * k9 + 14076)) (by omega) (by omega) ?_
                  exact jn77  M8060 F8060 hL8060  _ _ _ Wd (lv_sub hl [1, 2, 3, 4, 5, 6, 7, 0] rfl)
              refine z_iload_n C0 hl 2 rfl dL_ways_35 ?_
              refine z_iconst C0 dL_ways_36 ?_
              refine z_icmp_le C0 (tgt := 50) hr1 (zR_mk (by decide) (by decide)) dL_ways_37 (by decide) (fun c44 => ?_) (fun c44 => ?_)
              · skip
                refine z_aload_n C0 hl 1 rfl dL_ways_50 ?_
                refine z_iload_n C0 hl 4 rfl dL_ways_51 ?_
                refine z_iload C0 hl 6 rfl dL_ways_52 ?_
                refine z_iload_n C0 hl 2 rfl dL_ways_54 ?_
                refine z_iconst C0 dL_ways_55 ?_
                refine z_isub C0 dL_ways_56 ?_
                have hn45 : V 0 = 2 ∨ V 0 = 3 ∨ V 0 = 4 ∨ V 0 = 5 := by omega
                rcases hn45 with hn45 | hn45 | hn45 | hn45
                · skip
                  refine z_top (congrArg zI (show V 0 - 1 = 1 by omega)) ?_
                  refine z_invSi (As := [.ref (ad 0), .int (zI (k9 : Int)), .int (zI (k20 : Int)), .int (zI 1)]) (rest := []) C0 Wd (lw_nearest_1 l g zX ad M22 F22 hL22 (by omega) (k9 : Int) (zR_mk (by omega) (by omega)) (k20 : Int) (zR_mk (by omega) (by omega)) ⟨by omega, by omega⟩ ⟨by omega, by omega⟩ hst) ks_L_nearest zk_805 rfl hl.1 rfl (Nat.le_of_ble_eq_true rfl) (by decide) ⟨by show _ ≤ 85013; omega, by show _ ≤ 510078; omega⟩ dL_ways_57 (fun k45 M45 F45 H locs hr45 hp45 Wd => ?_)
                  obtain ⟨rfl, hL45⟩ := hp45
                  refine W.widen (k := (2361 * k20 + 14167 * k9 + 2346)) (n := (14166 * k20 + 85002 * k9 + 14076)) (by omega) (by omega) ?_
                  exact jn60 (zne V (k20 : Int) 1 (k9 : Int)) M45 F45 hL45 hr45 (qNe_in hL ⟨⟨by omega, by omega⟩, by omega, by omega⟩ (by omega)) _ _ _ Wd (lv_sub hl [1, 2, 3, 4, 5, 6, 0] rfl)
                · skip
                  refine z_top (congrArg zI (show V 0 - 1 = 2 by omega)) ?_
                  refine z_invSi (As := [.ref (ad 0), .int (zI (k9 : Int)), .int (zI (k20 : Int)), .int (zI 2)]) (rest := []) C0 Wd (lw_nearest_2 l g zX ad M22 F22 hL22 (by omega) (k9 : Int) (zR_mk (by omega) (by omega)) (k20 : Int) (zR_mk (by omega) (by omega)) ⟨by omega, by omega⟩ ⟨by omega, by omega⟩ hst) ks_L_nearest zk_805 rfl hl.1 rfl (Nat.le_of_ble_eq_true rfl) (by decide) ⟨by show _ ≤ 85013; omega, by show _ ≤ 510078; omega⟩ dL_ways_57 (fun k45 M45 F45 H locs hr45 hp45 Wd => ?_)
                  obtain ⟨rfl, hL45⟩ := hp45
                  refine W.widen (k := (2361 * k20 + 14167 * k9 + 2346)) (n := (14166 * k20 + 85002 * k9 + 14076)) (by omega) (by omega) ?_
                  exact jn60 (zne V (k20 : Int) 2 (k9 : Int)) M45 F45 hL45 hr45 (qNe_in hL ⟨⟨by omega, by omega⟩, by omega, by omega⟩ (by omega)) _ _ _ Wd (lv_sub hl [1, 2, 3, 4, 5, 6, 0] rfl)
                · skip
                  refine z_top (congrArg zI (show V 0 - 1 = 3 by omega)) ?_
                  refine z_invSi (As := [.ref (ad 0), .int (zI (k9 : Int)), .int (zI (k20 : Int)), .int (zI 3)]) (rest := []) C0 Wd (lw_nearest_3 l g zX ad M22 F22 hL22 (by omega) (k9 : Int) (zR_mk (by omega) (by omega)) (k20 : Int) (zR_mk (by omega) (by omega)) ⟨by omega, by omega⟩ ⟨by omega, by omega⟩ hst) ks_L_nearest zk_805 rfl hl.1 rfl (Nat.le_of_ble_eq_true rfl) (by decide) ⟨by show _ ≤ 85013; omega, by show _ ≤ 510078; omega⟩ dL_ways_57 (fun k45 M45 F45 H locs hr45 hp45 Wd => ?_)
                  obtain ⟨rfl, hL45⟩ := hp45
                  refine W.widen (k := (2361 * k20 + 14167 * k9 + 2346)) (n := (14166 * k20 + 85002 * k9 + 14076)) (by omega) (by omega) ?_
                  exact jn60 (zne V (k20 : Int) 3 (k9 : Int)) M45 F45 hL45 hr45 (qNe_in hL ⟨⟨by omega, by omega⟩, by omega, by omega⟩ (by omega)) _ _ _ Wd (lv_sub hl [1, 2, 3, 4, 5, 6, 0] rfl)
                · skip
                  refine z_top (congrArg zI (show V 0 - 1 = 4 by omega)) ?_
                  refine z_invSi (As := [.ref (ad 0), .int (zI (k9 : Int)), .int (zI (k20 : Int)), .int (zI 4)]) (rest := []) C0 Wd (lw_nearest_4 l g zX ad M22 F22 hL22 (by omega) (k9 : Int) (zR_mk (by omega) (by omega)) (k20 : Int) (zR_mk (by omega) (by omega)) ⟨by omega, by omega⟩ ⟨by omega, by omega⟩ hst) ks_L_nearest zk_805 rfl hl.1 rfl (Nat.le_of_ble_eq_true rfl) (by decide) ⟨by show _ ≤ 85013; omega, by show _ ≤ 510078; omega⟩ dL_ways_57 (fun k45 M45 F45 H locs hr45 hp45 Wd => ?_)
                  obtain ⟨rfl, hL45⟩ := hp45
                  refine W.widen (k := (2361 * k20 + 14167 * k9 + 2346)) (n := (14166 * k20 + 85002 * k9 + 14076)) (by omega) (by omega) ?_
                  exact jn60 (zne V (k20 : Int) 4 (k9 : Int)) M45 F45 hL45 hr45 (qNe_in hL ⟨⟨by omega, by omega⟩, by omega, by omega⟩ (by omega)) _ _ _ Wd (lv_sub hl [1, 2, 3, 4, 5, 6, 0] rfl)
              · skip
                refine z_aload_n C0 hl 1 rfl dL_ways_40 ?_
                refine z_iload_n C0 hl 4 rfl dL_ways_41 ?_
                refine z_iload C0 hl 6 rfl dL_ways_42 ?_
                refine z_invSH (As := [.ref (ad 0), .int (zI (k9 : Int)), .int (zI (k20 : Int))]) (rest := []) C0 Wd hst (hq_shortest l g zX ad M22 F22 hL22 (k9 : Int) (zR_mk (by omega) (by omega)) (k20 : Int) (zR_mk (by omega) (by omega)) ) hs_shortest zk_793 rfl hl.1 rfl (Nat.le_of_ble_eq_true rfl) (by decide) ⟨by show _ ≤ 85013; omega, by show _ ≤ 510078; omega⟩ dL_ways_44 (fun k46 M46 F46 H locs hr46 hp46 Wd => ?_)
                obtain ⟨rfl, hQ46⟩ := hp46
                have hL46 := hQ46.1
                refine z_goto C0 (tgt := 60) dL_ways_47 (by decide) ?_
                refine W.widen (k := (2361 * k20 + 14167 * k9 + 2346)) (n := (14166 * k20 + 85002 * k9 + 14076)) (by omega) (by omega) ?_
                exact jn60 (qSh V (k9 : Int) (k20 : Int)) M46 F46 hL46 hr46 (if_neg (by have := qSh_9 hL (a := (k9 : Int)) (b := (k20 : Int)) ⟨⟨by omega, by omega⟩, by omega, by omega⟩; omega)) _ _ _ Wd (lv_sub hl [1, 2, 3, 4, 5, 6, 0] rfl)
        refine W.widen (k := (2361 * 0 + 14167 * k9 + 0)) (n := (14166 * 0 + 85002 * k9 + 0)) (by omega) (by omega) ?_
        exact lp20 (V 0).toNat 0 (by omega) tun M9009 F9009 hL9009 (by rw [ht9]; exact (Int.add_zero _).symm) _ _ _ Wd (lv_sub hl [2, 3, 4, 5, 1, 0] rfl)
  refine W.widen (k := (14167 * 0 + 0)) (n := (85002 * 0 + 0)) (by omega) (by omega) ?_
  exact lp9 (V 0).toNat 0 (by omega) 0 M1 F1 hL1 rfl _ _ _ Wd (lv_sub hl [3, 2, 1, 0] rfl)
