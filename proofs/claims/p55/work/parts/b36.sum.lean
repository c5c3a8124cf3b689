/-! the sum -/
section ZLONG
variable {g : zG} {A : Nat → Prop} {p : Program} {l : Launch} {e : Env} {R : Room} {s : State} {m : MethodId} {args : Array Value} {below : List Frame} {meth : Method} {c : Code} {H : Heap} {locs : List Loc} {cells slots : Nat} {Q : State → Prop}
variable {cc : ByteArray} {nL : Nat} {own : String} {pc : Nat} {N : zNs} {ls : Array Slot} {rest st0 : List Value} {ad : Int → Nat} {M F : zMem} {mc ms : Nat}
theorem z_ldc2 {v : Int64} {index : Nat} {r : Int} (C0 : zC g A p s m args c cc nL own) (hconst : Cond.constantLong own index v ∈ zT) (hv : v = Int64.ofInt r) (hdg : decode cc pc = .ok (.ldc2_w index, 3)) (k : W p l e R s m args below meth c H locs cells slots Q (F0 m (pc + 3) ls (.long (Int64.ofInt r) :: rest))) : W p l e R s m args below meth c H locs cells slots Q (F0 m pc ls rest) := by
  subst hv
  exact lv_ldc2 C0.1.1 C0.1.2.1 C0.1.2.2.2.1 (C0.1.2.2.2.2 _ hconst) hdg k
theorem z_ladd {a b : Int} (C0 : zC g A p s m args c cc nL own) (hdg : decode cc pc = .ok (.ladd, 1)) (k : W p l e R s m args below meth c H locs cells slots Q (F0 m (pc + 1) ls (.long (Int64.ofInt (a + b)) :: rest))) : W p l e R s m args below meth c H locs cells slots Q (F0 m pc ls (.long (Int64.ofInt b) :: .long (Int64.ofInt a) :: rest)) := lv_ladd C0.1.1 C0.1.2.1 hdg (by rw [← Int64.ofInt_add]; exact k)
theorem z_lmul {a b : Int} (C0 : zC g A p s m args c cc nL own) (hdg : decode cc pc = .ok (.lmul, 1)) (k : W p l e R s m args below meth c H locs cells slots Q (F0 m (pc + 1) ls (.long (Int64.ofInt (a * b)) :: rest))) : W p l e R s m args below meth c H locs cells slots Q (F0 m pc ls (.long (Int64.ofInt b) :: .long (Int64.ofInt a) :: rest)) := lv_lmul C0.1.1 C0.1.2.1 hdg (by rw [← Int64.ofInt_mul]; exact k)
theorem z_lload_n {lv : List (Nat × Value)} {x : Int64} (C0 : zC g A p s m args c cc nL own) (hl : lv_has ls nL lv) (q : Nat) {k : Fin 4} (hq : lv[q]? = some ((k : Nat), .long x)) (hdg : decode cc pc = .ok (.lload_n k, 1)) (kk : W p l e R s m args below meth c H locs cells slots Q (F0 m (pc + 1) ls (.long x :: rest))) : W p l e R s m args below meth c H locs cells slots Q (F0 m pc ls rest) := lv_lload_n C0.1.1 C0.1.2.1 hdg rfl (lv_at hl q hq) kk
theorem z_lstore_n {x : Int64} {lv : List (Nat × Value)} (C0 : zC g A p s m args c cc nL own) (hl : lv_has ls nL lv) {k : Fin 4} (lv' : List (Nat × Value)) (hn : (k : Nat) + 1 < nL) (h : ((k : Nat), Value.long x) :: lv.filter (fun q => !(q.1 == (k : Nat)) && (!(q.1 == (k : Nat) + 1) && !(q.1 + 1 == (k : Nat) && q.2.category == 2))) = lv') (hdg : decode cc pc = .ok (.lstore_n k, 1)) (kk : ∀ ls', lv_has ls' nL lv' → W p l e R s m args below meth c H locs cells slots Q (F0 m (pc + 1) ls' rest)) : W p l e R s m args below meth c H locs cells slots Q (F0 m pc ls (.long x :: rest)) := lv_lstore_n C0.1.1 C0.1.2.1 hdg rfl hl hn h kk
theorem z_lret {post : Option Value → zMem → zMem → Prop} {x : Int64} (C0 : zC g (zA N ad s.heap.size) p s m args c cc nL own) (Wd : zW g (zA N ad s.heap.size) s.heap N ad M F H locs) (hr : meth.sig.returnType = some .long) (hlk : meth.locks = false) (hp : post (some (.long x)) M F) (hdg : decode cc pc = .ok (.lreturn, 1)) : W p l e R s m args below meth c H locs cells slots (zMQ below g N ad post args s cells slots) (F0 m pc ls [.long x]) :=
  W.lret C0.1.1 C0.1.2.1 hr (z_ends C0 Wd hp) Wd.1.2.2.2.2 hdg hlk
end ZLONG
def sgB (V : Int → Int) (one other h : Int) : Int := 37 * h + qDl V one other
def sgC (V : Int → Int) (one j h : Int) : Int := 3 * h + V (472 + 128 * one + (V 4 - 20 + j) % 128)
def sgD (V : Int → Int) (one h : Int) : Int := zfold (sgC V one) 90 (zfold (sgB V one) one.toNat h)
def sgE (V : Int → Int) (x h : Int) : Int := 43 * (41 * h + 10 * V (72 + 4 * x + 0) + V (72 + 4 * x + 1)) + 20 * V (72 + 4 * x + 2) + qLa V x
def sgF (V : Int → Int) (k h : Int) : Int := 53 * (47 * h + 100 * V (96 + 47 * k + 0) + 10 * V (96 + 47 * k + 1) + V (96 + 47 * k + 2)) + 1000 * V (96 + 47 * k + 4) + 10 * V (96 + 47 * k + 5) + V (96 + 47 * k + 6)
def sgV (V : Int → Int) : Int := zfold (sgF V) (V 2).toNat (zfold (sgE V) (V 1).toNat (zfold (sgD V) (V 0).toNat (31 * (31 * (7 + V 4) + V 5) + 100 * V 6 + V 7)))
set_option maxHeartbeats 4000000 in
set_option maxRecDepth 100000 in
theorem lw_sum (l : Launch) (g : zG) (zX : va_W) (ad : Int → Nat) (M F : zMem) {t many : Int} {V : Int → Int} {U : Int → Int → Int} (hL : zLw t many V U M F) (ht : t ≤ 100000) (hst : l.stackTraces = false) : zMt l yL_sum cL_sum 5 (some .long) 12 1710 10260 g (0, 398, zX) ad [.ref (ad 0)] M F (fun v M' F' => v = some (.long (Int64.ofInt (sgV V))) ∧ zLw t many V U M' F') := by
  refine zMt.of "DrumWarrenLaw" rfl (by decide +kernel) (Nat.le_of_ble_eq_true rfl) (fun {p e s m args below meth c ls} C0 Wd hl hret hlk hin => ?_)
  have hl : lv_has ls 5 [(0, .ref (ad 0))] := hl
  have hv0 := hL.v0
  have hv1 := hL.v1
  have hv2 := hL.v2
  have hv3 := hL.v3
  have hv4 := hL.v4
  have hv6 := hL.v6
  refine z_ldc2 C0 zk_1474 (r := 7) rfl dL_sum_0 ?_
  refine z_aload_n C0 hl 0 rfl dL_sum_3 ?_
  refine z_invVi (As := []) (rest := [.long (Int64.ofInt 7)]) C0 Wd (hv_ticks l g zX ad M F hL) kv_X11_ticks zN0 (zE_8 zK0) rfl zk_1475 rfl hl.1 rfl (Nat.le_of_ble_eq_true rfl) (by decide) ⟨by show _ ≤ 1710; omega, by show _ ≤ 10260; omega⟩ dL_sum_4 (fun k1 M1 F1 H locs hr1 hp1 Wd => ?_)
  obtain ⟨rfl, hQ1⟩ := hp1
  have hL1 := hQ1.1
  refine z_i2l C0 hr1 dL_sum_7 ?_
  refine z_ladd C0 dL_sum_8 ?_
  refine z_lstore_n C0 hl [(1, .long (Int64.ofInt (7 + (V 4)))), (0, .ref (ad 0))] (by decide) rfl dL_sum_9 (fun ls hl => ?_)
  refine z_ldc2 C0 zk_1479 (r := 31) rfl dL_sum_10 ?_
  refine z_lload_n C0 hl 0 rfl dL_sum_13 ?_
  refine z_lmul C0 dL_sum_14 ?_
  refine z_aload_n C0 hl 1 rfl dL_sum_15 ?_
  refine z_invVi (As := []) (rest := [.long (Int64.ofInt (31 * (7 + (V 4))))]) C0 Wd (hv_thumpsDrummed l g zX ad M1 F1 hL1) kv_X11_thumpsDrummed zN0 (zE_8 zK0) rfl zk_1480 rfl hl.1 rfl (Nat.le_of_ble_eq_true rfl) (by decide) ⟨by show _ ≤ 1710; omega, by show _ ≤ 10260; omega⟩ dL_sum_16 (fun k2 M2 F2 H locs hr2 hp2 Wd => ?_)
  obtain ⟨rfl, hQ2⟩ := hp2
  have hL2 := hQ2.1
  refine z_i2l C0 hr2 dL_sum_19 ?_
  refine z_ladd C0 dL_sum_20 ?_
  refine z_lstore_n C0 hl [(1, .long (Int64.ofInt ((31 * (7 + (V 4))) + (V 5)))), (0, .ref (ad 0))] (by decide) rfl dL_sum_21 (fun ls hl => ?_)
  refine z_ldc2 C0 zk_1479 (r := 31) rfl dL_sum_22 ?_
  refine z_lload_n C0 hl 0 rfl dL_sum_25 ?_
  refine z_lmul C0 dL_sum_26 ?_
  refine z_bipush C0 dL_sum_27 (by decide) ?_
  refine z_aload_n C0 hl 1 rfl dL_sum_29 ?_
  refine z_invVi (As := []) (rest := [.int (zI 100), .long (Int64.ofInt (31 * ((31 * (7 + (V 4))) + (V 5))))]) C0 Wd (hv_deliveries l g zX ad M2 F2 hL2) kv_X11_deliveries zN0 (zE_8 zK0) rfl zk_963 rfl hl.1 rfl (Nat.le_of_ble_eq_true rfl) (by decide) ⟨by show _ ≤ 1710; omega, by show _ ≤ 10260; omega⟩ dL_sum_30 (fun k3 M3 F3 H locs hr3 hp3 Wd => ?_)
  obtain ⟨rfl, hQ3⟩ := hp3
  have hL3 := hQ3.1
  refine z_imul C0 dL_sum_33 ?_
  refine z_i2l C0 (by have q0 := hr3.1; have p0 := hr3.2; exact zR_mk (by omega) (by omega)) dL_sum_34 ?_
  refine z_ladd C0 dL_sum_35 ?_
  refine z_aload_n C0 hl 1 rfl dL_sum_36 ?_
  refine z_invVi (As := []) (rest := [.long (Int64.ofInt ((31 * ((31 * (7 + (V 4))) + (V 5))) + (100 * (V 6))))]) C0 Wd (hv_losses l g zX ad M3 F3 hL3) kv_X11_losses zN0 (zE_8 zK0) rfl zk_1387 rfl hl.1 rfl (Nat.le_of_ble_eq_true rfl) (by decide) ⟨by show _ ≤ 1710; omega, by show _ ≤ 10260; omega⟩ dL_sum_37 (fun k4 M4 F4 H locs hr4 hp4 Wd => ?_)
  obtain ⟨rfl, hQ4⟩ := hp4
  have hL4 := hQ4.1
  refine z_i2l C0 hr4 dL_sum_40 ?_
  refine z_ladd C0 dL_sum_41 ?_
  refine z_lstore_n C0 hl [(1, .long (Int64.ofInt (((31 * ((31 * (7 + (V 4))) + (V 5))) + (100 * (V 6))) + (V 7)))), (0, .ref (ad 0))] (by decide) rfl dL_sum_42 (fun ls hl => ?_)
  refine z_iconst C0 dL_sum_43 ?_
  refine z_istore_n C0 hl [(3, .int (zI 0)), (1, .long (Int64.ofInt (((31 * ((31 * (7 + (V 4))) + (V 5))) + (100 * (V 6))) + (V 7)))), (0, .ref (ad 0))] (by decide) rfl dL_sum_44 (fun ls hl => ?_)
  have hb45 : V 0 ≤ 8 := by omega
  have aft45 : ∀ (k45 : Nat) (hk45 : (k45 : Int) ≤ V 0) (h45 : Int) (M9045 F9045 : zMem) (hL9045 : zLw t many V U M9045 F9045) (hs45 : h45 = zfold (sgD V) k45 (31 * (31 * (7 + V 4) + V 5) + 100 * V 6 + V 7)) (hx45 : (k45 : Int) = V 0) (H : Heap) (locs : List Loc) (ls : Array Slot) (Wd : zW g (zA (0, 398, zX) ad s.heap.size) s.heap (0, 398, zX) ad M9045 F9045 H locs) (hl : lv_has ls 5 [(0, .ref (ad 0)), (1, .long (Int64.ofInt h45)), (3, .int (zI (k45 : Int)))]), W p l e (zrm 12 1710 10260) s m args below meth c H locs (1632) (9792) (zMQ below g (0, 398, zX) ad (fun v M' F' => v = some (.long (Int64.ofInt (sgV V))) ∧ zLw t many V U M' F') args s 1710 10260) (F0 m 131 ls []) := by
    intro k45 hk45 h45 M9045 F9045 hL9045 hs45 hx45 H locs ls Wd hl
    have hz45 : h45 = zfold (sgD V) (V 0).toNat (31 * (31 * (7 + V 4) + V 5) + 100 * V 6 + V 7) := by rw [hs45, show k45 = (V 0).toNat by omega]
    replace hl : lv_has ls 5 [(0, .ref (ad 0)), (1, .long (Int64.ofInt h45))] := lv_sub hl [0, 1] rfl
    refine z_iconst C0 dL_sum_131 ?_
    refine z_istore_n C0 hl [(3, .int (zI 0)), (0, .ref (ad 0)), (1, .long (Int64.ofInt h45))] (by decide) rfl dL_sum_132 (fun ls hl => ?_)
    have hb133 : V 1 ≤ 6 := by omega
    have aft133 : ∀ (k133 : Nat) (hk133 : (k133 : Int) ≤ V 1) (h133 : Int) (M9133 F9133 : zMem) (hL9133 : zLw t many V U M9133 F9133) (hs133 : h133 = zfold (sgE V) k133 (zfold (sgD V) (V 0).toNat (31 * (31 * (7 + V 4) + V 5) + 100 * V 6 + V 7))) (hx133 : (k133 : Int) = V 1) (H : Heap) (locs : List Loc) (ls : Array Slot) (Wd : zW g (zA (0, 398, zX) ad s.heap.size) s.heap (0, 398, zX) ad M9133 F9133 H locs) (hl : lv_has ls 5 [(0, .ref (ad 0)), (1, .long (Int64.ofInt h133)), (3, .int (zI (k133 : Int)))]), W p l e (zrm 12 1710 10260) s m args below meth c H locs (1662) (9972) (zMQ below g (0, 398, zX) ad (fun v M' F' => v = some (.long (Int64.ofInt (sgV V))) ∧ zLw t many V U M' F') args s 1710 10260) (F0 m 201 ls []) := by
      intro k133 hk133 h133 M9133 F9133 hL9133 hs133 hx133 H locs ls Wd hl
      have hz133 : h133 = zfold (sgE V) (V 1).toNat (zfold (sgD V) (V 0).toNat (31 * (31 * (7 + V 4) + V 5) + 100 * V 6 + V 7)) := by rw [hs133, show k133 = (V 1).toNat by omega]
      replace hl : lv_has ls 5 [(0, .ref (ad 0)), (1, .long (Int64.ofInt h133))] := lv_sub hl [0, 1] rfl
      refine z_iconst C0 dL_sum_201 ?_
      refine z_istore_n C0 hl [(3, .int (zI 0)), (0, .ref (ad 0)), (1, .long (Int64.ofInt h133))] (by decide) rfl dL_sum_202 (fun ls hl => ?_)
      have hb203 : V 2 ≤ 8 := by omega
      have aft203 : ∀ (k203 : Nat) (hk203 : (k203 : Int) ≤ V 2) (h203 : Int) (M9203 F9203 : zMem) (hL9203 : zLw t many V U M9203 F9203) (hs203 : h203 = zfold (sgF V) k203 (zfold (sgE V) (V 1).toNat (zfold (sgD V) (V 0).toNat (31 * (31 * (7 + V 4) + V 5) + 100 * V 6 + V 7)))) (hx203 : (k203 : Int) = V 2) (H : Heap) (locs : List Loc) (ls : Array Slot) (Wd : zW g (zA (0, 398, zX) ad s.heap.size) s.heap (0, 398, zX) ad M9203 F9203 H locs) (hl : lv_has ls 5 [(0, .ref (ad 0)), (1, .long (Int64.ofInt h203)), (3, .int (zI (k203 : Int)))]), W p l e (zrm 12 1710 10260) s m args below meth c H locs (1710) (10260) (zMQ below g (0, 398, zX) ad (fun v M' F' => v = some (.long (Int64.ofInt (sgV V))) ∧ zLw t many V U M' F') args s 1710 10260) (F0 m 293 ls []) := by
        intro k203 hk203 h203 M9203 F9203 hL9203 hs203 hx203 H locs ls Wd hl
        replace hl : lv_has ls 5 [(0, .ref (ad 0)), (1, .long (Int64.ofInt h203))] := lv_sub hl [0, 1] rfl
        refine z_lload_n C0 hl 1 rfl dL_sum_293 ?_
        refine W.widen (k := 1710) (n := 10260) (by omega) (by omega) ?_
        exact z_lret C0 Wd hret hlk ⟨by rw [hs203, show k203 = (V 2).toNat by omega]; rfl, hL9203⟩ dL_sum_294
      have lp203 : ∀ (d203 k203 : Nat) (hk203 : (k203 : Int) + d203 = V 2) (h203 : Int) (M9203 F9203 : zMem) (hL9203 : zLw t many V U M9203 F9203) (hs203 : h203 = zfold (sgF V) k203 (zfold (sgE V) (V 1).toNat (zfold (sgD V) (V 0).toNat (31 * (31 * (7 + V 4) + V 5) + 100 * V 6 + V 7)))) (H : Heap) (locs : List Loc) (ls : Array Slot) (Wd : zW g (zA (0, 398, zX) ad s.heap.size) s.heap (0, 398, zX) ad M9203 F9203 H locs) (hl : lv_has ls 5 [(0, .ref (ad 0)), (1, .long (Int64.ofInt h203)), (3, .int (zI (k203 : Int)))]), W p l e (zrm 12 1710 10260) s m args below meth c H locs (6 * k203 + 1662) (36 * k203 + 9972) (zMQ below g (0, 398, zX) ad (fun v M' F' => v = some (.long (Int64.ofInt (sgV V))) ∧ zLw t many V U M' F') args s 1710 10260) (F0 m 203 ls []) := by
        intro d203
        induction d203 with
        | zero =>
          intro k203 hk203 h203 M9203 F9203 hL9203 hs203 H locs ls Wd hl
          have hm203 := fun (q : (k203 : Int) < V 2) => hL.iv.2.2.2.2.2.2.1 (k203 : Int) (by omega) q
          refine z_iload_n C0 hl 2 rfl dL_sum_203 ?_
          refine z_aload_n C0 hl 0 rfl dL_sum_204 ?_
          refine z_invVi (As := []) (rest := [.int (zI (k203 : Int))]) C0 Wd (hv_messageCount l g zX ad M9203 F9203 hL9203) kv_X11_messageCount zN0 (zE_8 zK0) rfl zk_871 rfl hl.1 rfl (Nat.le_of_ble_eq_true rfl) (by decide) ⟨by show _ ≤ 1710; omega, by show _ ≤ 10260; omega⟩ dL_sum_205 (fun k5 M5 F5 H locs hr5 hp5 Wd => ?_)
          obtain ⟨rfl, hQ5⟩ := hp5
          have hL5 := hQ5.1
          refine z_icmp_ge C0 (tgt := 293) (zR_mk (by omega) (by omega)) hr5 dL_sum_208 (by decide) (fun c6 => ?_) (fun c6 => ?_)
          · skip
            refine W.widen (k := (1710)) (n := (10260)) (by omega) (by omega) ?_
            exact aft203 k203 (by omega) h203 M5 F5 hL5 (by first | assumption | omega) (by first | assumption | omega) _ _ _ Wd (lv_sub hl [0, 1, 2] rfl)
          · skip
            exfalso; omega
        | succ d203 ih203 =>
          intro k203 hk203 h203 M9203 F9203 hL9203 hs203 H locs ls Wd hl
          have hm203 := fun (q : (k203 : Int) < V 2) => hL.iv.2.2.2.2.2.2.1 (k203 : Int) (by omega) q
          refine z_iload_n C0 hl 2 rfl dL_sum_203 ?_
          refine z_aload_n C0 hl 0 rfl dL_sum_204 ?_
          refine z_invVi (As := []) (rest := [.int (zI (k203 : Int))]) C0 Wd (hv_messageCount l g zX ad M9203 F9203 hL9203) kv_X11_messageCount zN0 (zE_8 zK0) rfl zk_871 rfl hl.1 rfl (Nat.le_of_ble_eq_true rfl) (by decide) ⟨by show _ ≤ 1710; omega, by show _ ≤ 10260; omega⟩ dL_sum_205 (fun k7 M7 F7 H locs hr7 hp7 Wd => ?_)
          obtain ⟨rfl, hQ7⟩ := hp7
          have hL7 := hQ7.1
          refine z_icmp_ge C0 (tgt := 293) (zR_mk (by omega) (by omega)) hr7 dL_sum_208 (by decide) (fun c8 => ?_) (fun c8 => ?_)
          · skip
            exfalso; omega
          · skip
            have hm8 := hm203 (by omega)
            refine z_aload_n C0 hl 0 rfl dL_sum_211 ?_
            refine z_iload_n C0 hl 2 rfl dL_sum_212 ?_
            refine z_invQi (As := [.int (zI (k203 : Int))]) (rest := []) C0 Wd hst (hv_message l g zX ad M7 F7 hL7 (k203 : Int) (zR_mk (by omega) (by omega)) ⟨by omega, by omega⟩ ) kv_X11_message zN0 (zE_8 zK0) rfl zk_878 rfl hl.1 rfl (Nat.le_of_ble_eq_true rfl) (by decide) ⟨by show _ ≤ 1710; omega, by show _ ≤ 10260; omega⟩ dL_sum_213 (fun k9 M9 F9 H locs hr9 hp9 Wd => ?_)
            obtain ⟨rfl, hQ9⟩ := hp9
            have hL9 := hQ9.1
            refine z_istore C0 hl [(4, .int (zI (V (96 + 47 * (k203 : Int) + 0)))), (0, .ref (ad 0)), (1, .long (Int64.ofInt h203)), (3, .int (zI (k203 : Int)))] (by decide) rfl dL_sum_216 (fun ls hl => ?_)
            refine z_ldc2 C0 zk_1494 (r := 47) rfl dL_sum_218 ?_
            refine z_lload_n C0 hl 2 rfl dL_sum_221 ?_
            refine z_lmul C0 dL_sum_222 ?_
            refine z_bipush C0 dL_sum_223 (by decide) ?_
            refine z_iload C0 hl 0 rfl dL_sum_225 ?_
            refine z_imul C0 dL_sum_227 ?_
            refine z_i2l C0 (by have q0 := hr9.1; have p0 := hr9.2; exact zR_mk (by omega) (by omega)) dL_sum_228 ?_
            refine z_ladd C0 dL_sum_229 ?_
            refine z_bipush C0 dL_sum_230 (by decide) ?_
            refine z_aload_n C0 hl 1 rfl dL_sum_232 ?_
            refine z_iload C0 hl 0 rfl dL_sum_233 ?_
            refine z_invQi (As := [.int (zI (V (96 + 47 * (k203 : Int) + 0)))]) (rest := [.int (zI 10), .long (Int64.ofInt ((47 * h203) + (100 * (V (96 + 47 * (k203 : Int) + 0)))))]) C0 Wd hst (hv_sender l g zX ad M9 F9 hL9 (V (96 + 47 * (k203 : Int) + 0)) hr9 (zpl_n1 hL.id ⟨by omega, by omega⟩) ) kv_X11_sender zN0 (zE_8 zK0) rfl zk_902 rfl hl.1 rfl (Nat.le_of_ble_eq_true rfl) (by decide) ⟨by show _ ≤ 1710; omega, by show _ ≤ 10260; omega⟩ dL_sum_235 (fun k10 M10 F10 H locs hr10 hp10 Wd => ?_)
            obtain ⟨rfl, hQ10⟩ := hp10
            have hL10 := hQ10.1
            obtain ⟨he11, hr10⟩ : (V (96 + 47 * (zpl (V (96 + 47 * (k203 : Int) + 0)) V) + 1)) = (V (96 + 47 * (k203 : Int) + 1)) ∧ zR (V (96 + 47 * (k203 : Int) + 1)) := (fun q => ⟨q, q ▸ hr10⟩) (by rw [zpl_at hL.id ⟨by omega, by omega⟩])
            refine z_top (congrArg zI he11) ?_
            clear he11
            refine z_imul C0 dL_sum_238 ?_
            refine z_i2l C0 (by have q0 := hr10.1; have p0 := hr10.2; exact zR_mk (by omega) (by omega)) dL_sum_239 ?_
            refine z_ladd C0 dL_sum_240 ?_
            refine z_aload_n C0 hl 1 rfl dL_sum_241 ?_
            refine z_iload C0 hl 0 rfl dL_sum_242 ?_
            refine z_invQi (As := [.int (zI (V (96 + 47 * (k203 : Int) + 0)))]) (rest := [.long (Int64.ofInt (((47 * h203) + (100 * (V (96 + 47 * (k203 : Int) + 0)))) + (10 * (V (96 + 47 * (k203 : Int) + 1)))))]) C0 Wd hst (hv_receiver l g zX ad M10 F10 hL10 (V (96 + 47 * (k203 : Int) + 0)) hr9 (zpl_n1 hL.id ⟨by omega, by omega⟩) ) kv_X11_receiver zN0 (zE_8 zK0) rfl zk_1295 rfl hl.1 rfl (Nat.le_of_ble_eq_true rfl) (by decide) ⟨by show _ ≤ 1710; omega, by show _ ≤ 10260; omega⟩ dL_sum_244 (fun k12 M12 F12 H locs hr12 hp12 Wd => ?_)
            obtain ⟨rfl, hQ12⟩ := hp12
            have hL12 := hQ12.1
            obtain ⟨he13, hr12⟩ : (V (96 + 47 * (zpl (V (96 + 47 * (k203 : Int) + 0)) V) + 2)) = (V (96 + 47 * (k203 : Int) + 2)) ∧ zR (V (96 + 47 * (k203 : Int) + 2)) := (fun q => ⟨q, q ▸ hr12⟩) (by rw [zpl_at hL.id ⟨by omega, by omega⟩])
            refine z_top (congrArg zI he13) ?_
            clear he13
            refine z_i2l C0 hr12 dL_sum_247 ?_
            refine z_ladd C0 dL_sum_248 ?_
            refine z_lstore_n C0 hl [(1, .long (Int64.ofInt ((((47 * h203) + (100 * (V (96 + 47 * (k203 : Int) + 0)))) + (10 * (V (96 + 47 * (k203 : Int) + 1)))) + (V (96 + 47 * (k203 : Int) + 2))))), (4, .int (zI (V (96 + 47 * (k203 : Int) + 0)))), (0, .ref (ad 0)), (3, .int (zI (k203 : Int)))] (by decide) rfl dL_sum_249 (fun ls hl => ?_)
            refine z_ldc2 C0 zk_1495 (r := 53) rfl dL_sum_250 ?_
            refine z_lload_n C0 hl 0 rfl dL_sum_253 ?_
            refine z_lmul C0 dL_sum_254 ?_
            refine z_sipush C0 dL_sum_255 (by decide) ?_
            refine z_aload_n C0 hl 2 rfl dL_sum_258 ?_
            refine z_iload C0 hl 1 rfl dL_sum_259 ?_
            refine z_invQi (As := [.int (zI (V (96 + 47 * (k203 : Int) + 0)))]) (rest := [.int (zI 1000), .long (Int64.ofInt (53 * ((((47 * h203) + (100 * (V (96 + 47 * (k203 : Int) + 0)))) + (10 * (V (96 + 47 * (k203 : Int) + 1)))) + (V (96 + 47 * (k203 : Int) + 2)))))]) C0 Wd hst (hv_state l g zX ad M12 F12 hL12 (V (96 + 47 * (k203 : Int) + 0)) hr9 (zpl_n1 hL.id ⟨by omega, by omega⟩) ) kv_X11_state zN0 (zE_8 zK0) rfl zk_886 rfl hl.1 rfl (Nat.le_of_ble_eq_true rfl) (by decide) ⟨by show _ ≤ 1710; omega, by show _ ≤ 10260; omega⟩ dL_sum_261 (fun k14 M14 F14 H locs hr14 hp14 Wd => ?_)
            obtain ⟨rfl, hQ14⟩ := hp14
            have hL14 := hQ14.1
            obtain ⟨he15, hr14⟩ : (V (96 + 47 * (zpl (V (96 + 47 * (k203 : Int) + 0)) V) + 4)) = (V (96 + 47 * (k203 : Int) + 4)) ∧ zR (V (96 + 47 * (k203 : Int) + 4)) := (fun q => ⟨q, q ▸ hr14⟩) (by rw [zpl_at hL.id ⟨by omega, by omega⟩])
            refine z_top (congrArg zI he15) ?_
            clear he15
            refine z_imul C0 dL_sum_264 ?_
            refine z_i2l C0 (by have q0 := hr14.1; have p0 := hr14.2; exact zR_mk (by omega) (by omega)) dL_sum_265 ?_
            refine z_ladd C0 dL_sum_266 ?_
            refine z_bipush C0 dL_sum_267 (by decide) ?_
            refine z_aload_n C0 hl 2 rfl dL_sum_269 ?_
            refine z_iload C0 hl 1 rfl dL_sum_270 ?_
            refine z_invQi (As := [.int (zI (V (96 + 47 * (k203 : Int) + 0)))]) (rest := [.int (zI 10), .long (Int64.ofInt ((53 * ((((47 * h203) + (100 * (V (96 + 47 * (k203 : Int) + 0)))) + (10 * (V (96 + 47 * (k203 : Int) + 1)))) + (V (96 + 47 * (k203 : Int) + 2)))) + (1000 * (V (96 + 47 * (k203 : Int) + 4)))))]) C0 Wd hst (hv_timesLost l g zX ad M14 F14 hL14 (V (96 + 47 * (k203 : Int) + 0)) hr9 (zpl_n1 hL.id ⟨by omega, by omega⟩) ) kv_X11_timesLost zN0 (zE_8 zK0) rfl zk_980 rfl hl.1 rfl (Nat.le_of_ble_eq_true rfl) (by decide) ⟨by show _ ≤ 1710; omega, by show _ ≤ 10260; omega⟩ dL_sum_272 (fun k16 M16 F16 H locs hr16 hp16 Wd => ?_)
            obtain ⟨rfl, hQ16⟩ := hp16
            have hL16 := hQ16.1
            obtain ⟨he17, hr16⟩ : (V (96 + 47 * (zpl (V (96 + 47 * (k203 : Int) + 0)) V) + 5)) = (V (96 + 47 * (k203 : Int) + 5)) ∧ zR (V (96 + 47 * (k203 : Int) + 5)) := (fun q => ⟨q, q ▸ hr16⟩) (by rw [zpl_at hL.id ⟨by omega, by omega⟩])
            refine z_top (congrArg zI he17) ?_
            clear he17
            refine z_imul C0 dL_sum_275 ?_
            refine z_i2l C0 (by have q0 := hr16.1; have p0 := hr16.2; exact zR_mk (by omega) (by omega)) dL_sum_276 ?_
            refine z_ladd C0 dL_sum_277 ?_
            refine z_aload_n C0 hl 2 rfl dL_sum_278 ?_
            refine z_iload C0 hl 1 rfl dL_sum_279 ?_
            refine z_invQi (As := [.int (zI (V (96 + 47 * (k203 : Int) + 0)))]) (rest := [.long (Int64.ofInt (((53 * ((((47 * h203) + (100 * (V (96 + 47 * (k203 : Int) + 0)))) + (10 * (V (96 + 47 * (k203 : Int) + 1)))) + (V (96 + 47 * (k203 : Int) + 2)))) + (1000 * (V (96 + 47 * (k203 : Int) + 4)))) + (10 * (V (96 + 47 * (k203 : Int) + 5)))))]) C0 Wd hst (hv_beatsDrummed l g zX ad M16 F16 hL16 (V (96 + 47 * (k203 : Int) + 0)) hr9 (zpl_n1 hL.id ⟨by omega, by omega⟩) ) kv_X11_beatsDrummed zN0 (zE_8 zK0) rfl zk_1352 rfl hl.1 rfl (Nat.le_of_ble_eq_true rfl) (by decide) ⟨by show _ ≤ 1710; omega, by show _ ≤ 10260; omega⟩ dL_sum_281 (fun k18 M18 F18 H locs hr18 hp18 Wd => ?_)
            obtain ⟨rfl, hQ18⟩ := hp18
            have hL18 := hQ18.1
            obtain ⟨he19, hr18⟩ : (V (96 + 47 * (zpl (V (96 + 47 * (k203 : Int) + 0)) V) + 6)) = (V (96 + 47 * (k203 : Int) + 6)) ∧ zR (V (96 + 47 * (k203 : Int) + 6)) := (fun q => ⟨q, q ▸ hr18⟩) (by rw [zpl_at hL.id ⟨by omega, by omega⟩])
            refine z_top (congrArg zI he19) ?_
            clear he19
            refine z_i2l C0 hr18 dL_sum_284 ?_
            refine z_ladd C0 dL_sum_285 ?_
            refine z_lstore_n C0 hl [(1, .long (Int64.ofInt ((((53 * ((((47 * h203) + (100 * (V (96 + 47 * (k203 : Int) + 0)))) + (10 * (V (96 + 47 * (k203 : Int) + 1)))) + (V (96 + 47 * (k203 : Int) + 2)))) + (1000 * (V (96 + 47 * (k203 : Int) + 4)))) + (10 * (V (96 + 47 * (k203 : Int) + 5)))) + (V (96 + 47 * (k203 : Int) + 6))))), (4, .int (zI (V (96 + 47 * (k203 : Int) + 0)))), (0, .ref (ad 0)), (3, .int (zI (k203 : Int)))] (by decide) rfl dL_sum_286 (fun ls hl => ?_)
            refine z_iinc C0 hl 3 (t := (k203 : Int)) (u := ((k203 : Int) + 1)) rfl (by omega) [(3, .int (zI ((k203 : Int) + 1))), (1, .long (Int64.ofInt ((((53 * ((((47 * h203) + (100 * (V (96 + 47 * (k203 : Int) + 0)))) + (10 * (V (96 + 47 * (k203 : Int) + 1)))) + (V (96 + 47 * (k203 : Int) + 2)))) + (1000 * (V (96 + 47 * (k203 : Int) + 4)))) + (10 * (V (96 + 47 * (k203 : Int) + 5)))) + (V (96 + 47 * (k203 : Int) + 6))))), (4, .int (zI (V (96 + 47 * (k203 : Int) + 0)))), (0, .ref (ad 0))] (by decide) rfl dL_sum_287 (fun ls hl => ?_)
            refine z_goto C0 (tgt := 203) dL_sum_290 (by decide) ?_
            refine W.widen (k := (6 * (k203 + 1) + 1662)) (n := (36 * (k203 + 1) + 9972)) (by omega) (by omega) ?_
            exact ih203 (k203 + 1) (by omega) ((((53 * ((((47 * h203) + (100 * (V (96 + 47 * (k203 : Int) + 0)))) + (10 * (V (96 + 47 * (k203 : Int) + 1)))) + (V (96 + 47 * (k203 : Int) + 2)))) + (1000 * (V (96 + 47 * (k203 : Int) + 4)))) + (10 * (V (96 + 47 * (k203 : Int) + 5)))) + (V (96 + 47 * (k203 : Int) + 6))) M18 F18 hL18 (by rw [hs203]; rfl) _ _ _ Wd (lv_sub hl [3, 1, 0] rfl)
      refine W.widen (k := (6 * 0 + 1662)) (n := (36 * 0 + 9972)) (by omega) (by omega) ?_
      exact lp203 (V 2).toNat 0 (by omega) h133 M9133 F9133 hL9133 hz133 _ _ _ Wd (lv_sub hl [1, 2, 0] rfl)
    have lp133 : ∀ (d133 k133 : Nat) (hk133 : (k133 : Int) + d133 = V 1) (h133 : Int) (M9133 F9133 : zMem) (hL9133 : zLw t many V U M9133 F9133) (hs133 : h133 = zfold (sgE V) k133 (zfold (sgD V) (V 0).toNat (31 * (31 * (7 + V 4) + V 5) + 100 * V 6 + V 7))) (H : Heap) (locs : List Loc) (ls : Array Slot) (Wd : zW g (zA (0, 398, zX) ad s.heap.size) s.heap (0, 398, zX) ad M9133 F9133 H locs) (hl : lv_has ls 5 [(0, .ref (ad 0)), (1, .long (Int64.ofInt h133)), (3, .int (zI (k133 : Int)))]), W p l e (zrm 12 1710 10260) s m args below meth c H locs (5 * k133 + 1632) (30 * k133 + 9792) (zMQ below g (0, 398, zX) ad (fun v M' F' => v = some (.long (Int64.ofInt (sgV V))) ∧ zLw t many V U M' F') args s 1710 10260) (F0 m 133 ls []) := by
      intro d133
      induction d133 with
      | zero =>
        intro k133 hk133 h133 M9133 F9133 hL9133 hs133 H locs ls Wd hl
        have hh133 := fun (q : (k133 : Int) < V 1) => hL.iv.2.2.2.2.2.1 (k133 : Int) (by omega) q
        refine z_iload_n C0 hl 2 rfl dL_sum_133 ?_
        refine z_aload_n C0 hl 0 rfl dL_sum_134 ?_
        refine z_invVi (As := []) (rest := [.int (zI (k133 : Int))]) C0 Wd (hv_hareCount l g zX ad M9133 F9133 hL9133) kv_X11_hareCount zN0 (zE_8 zK0) rfl zk_867 rfl hl.1 rfl (Nat.le_of_ble_eq_true rfl) (by decide) ⟨by show _ ≤ 1710; omega, by show _ ≤ 10260; omega⟩ dL_sum_135 (fun k20 M20 F20 H locs hr20 hp20 Wd => ?_)
        obtain ⟨rfl, hQ20⟩ := hp20
        have hL20 := hQ20.1
        refine z_icmp_ge C0 (tgt := 201) (zR_mk (by omega) (by omega)) hr20 dL_sum_138 (by decide) (fun c21 => ?_) (fun c21 => ?_)
        · skip
          refine W.widen (k := (1662)) (n := (9972)) (by omega) (by omega) ?_
          exact aft133 k133 (by omega) h133 M20 F20 hL20 (by first | assumption | omega) (by first | assumption | omega) _ _ _ Wd (lv_sub hl [0, 1, 2] rfl)
        · skip
          exfalso; omega
      | succ d133 ih133 =>
        intro k133 hk133 h133 M9133 F9133 hL9133 hs133 H locs ls Wd hl
        have hh133 := fun (q : (k133 : Int) < V 1) => hL.iv.2.2.2.2.2.1 (k133 : Int) (by omega) q
        refine z_iload_n C0 hl 2 rfl dL_sum_133 ?_
        refine z_aload_n C0 hl 0 rfl dL_sum_134 ?_
        refine z_invVi (As := []) (rest := [.int (zI (k133 : Int))]) C0 Wd (hv_hareCount l g zX ad M9133 F9133 hL9133) kv_X11_hareCount zN0 (zE_8 zK0) rfl zk_867 rfl hl.1 rfl (Nat.le_of_ble_eq_true rfl) (by decide) ⟨by show _ ≤ 1710; omega, by show _ ≤ 10260; omega⟩ dL_sum_135 (fun k22 M22 F22 H locs hr22 hp22 Wd => ?_)
        obtain ⟨rfl, hQ22⟩ := hp22
        have hL22 := hQ22.1
        refine z_icmp_ge C0 (tgt := 201) (zR_mk (by omega) (by omega)) hr22 dL_sum_138 (by decide) (fun c23 => ?_) (fun c23 => ?_)
        · skip
          exfalso; omega
        · skip
          have hh8 := hh133 (by omega)
          refine z_ldc2 C0 zk_1492 (r := 41) rfl dL_sum_141 ?_
          refine z_lload_n C0 hl 1 rfl dL_sum_144 ?_
          refine z_lmul C0 dL_sum_145 ?_
          refine z_bipush C0 dL_sum_146 (by decide) ?_
          refine z_aload_n C0 hl 0 rfl dL_sum_148 ?_
          refine z_iload_n C0 hl 2 rfl dL_sum_149 ?_
          refine z_invQi (As := [.int (zI (k133 : Int))]) (rest := [.int (zI 10), .long (Int64.ofInt (41 * h133))]) C0 Wd hst (hv_chamberOf l g zX ad M22 F22 hL22 (k133 : Int) (zR_mk (by omega) (by omega)) ⟨by omega, by omega⟩ ) kv_X11_chamberOf zN0 (zE_8 zK0) rfl zk_939 rfl hl.1 rfl (Nat.le_of_ble_eq_true rfl) (by decide) ⟨by show _ ≤ 1710; omega, by show _ ≤ 10260; omega⟩ dL_sum_150 (fun k24 M24 F24 H locs hr24 hp24 Wd => ?_)
          obtain ⟨rfl, hQ24⟩ := hp24
          have hL24 := hQ24.1
          refine z_imul C0 dL_sum_153 ?_
          refine z_i2l C0 (by have q0 := hr24.1; have p0 := hr24.2; exact zR_mk (by omega) (by omega)) dL_sum_154 ?_
          refine z_ladd C0 dL_sum_155 ?_
          refine z_aload_n C0 hl 0 rfl dL_sum_156 ?_
          refine z_iload_n C0 hl 2 rfl dL_sum_157 ?_
          refine z_invQi (As := [.int (zI (k133 : Int))]) (rest := [.long (Int64.ofInt ((41 * h133) + (10 * (V (72 + 4 * (k133 : Int) + 0)))))]) C0 Wd hst (hv_isListening l g zX ad M24 F24 hL24 (k133 : Int) (zR_mk (by omega) (by omega)) ⟨by omega, by omega⟩ ) kv_X11_isListening zN0 (zE_8 zK0) rfl zk_970 rfl hl.1 rfl (Nat.le_of_ble_eq_true rfl) (by decide) ⟨by show _ ≤ 1710; omega, by show _ ≤ 10260; omega⟩ dL_sum_158 (fun k25 M25 F25 H locs hr25 hp25 Wd => ?_)
          obtain ⟨rfl, hQ25⟩ := hp25
          have hL25 := hQ25.1
          have jn169 : ∀ (M8169 F8169 : zMem) (hL8169 : zLw t many V U M8169 F8169) (H : Heap) (locs : List Loc) (ls : Array Slot) (Wd : zW g (zA (0, 398, zX) ad s.heap.size) s.heap (0, 398, zX) ad M8169 F8169 H locs) (hl : lv_has ls 5 [(0, .ref (ad 0)), (1, .long (Int64.ofInt h133)), (3, .int (zI (k133 : Int)))]), W p l e (zrm 12 1710 10260) s m args below meth c H locs (5 * k133 + 1634) (30 * k133 + 9804) (zMQ below g (0, 398, zX) ad (fun v M' F' => v = some (.long (Int64.ofInt (sgV V))) ∧ zLw t many V U M' F') args s 1710 10260) (F0 m 169 ls [.int (zI (V (72 + 4 * (k133 : Int) + 1))), .long (Int64.ofInt ((41 * h133) + (10 * (V (72 + 4 * (k133 : Int) + 0)))))]) := by
            intro M8169 F8169 hL8169 H locs ls Wd hl
            refine z_i2l C0 (by rcases hh8.2.1 with h | h <;> (rw [h]; exact zR_mk (by decide) (by decide))) dL_sum_169 ?_
            refine z_ladd C0 dL_sum_170 ?_
            refine z_lstore_n C0 hl [(1, .long (Int64.ofInt (((41 * h133) + (10 * (V (72 + 4 * (k133 : Int) + 0)))) + (V (72 + 4 * (k133 : Int) + 1))))), (0, .ref (ad 0)), (3, .int (zI (k133 : Int)))] (by decide) rfl dL_sum_171 (fun ls hl => ?_)
            refine z_ldc2 C0 zk_1493 (r := 43) rfl dL_sum_172 ?_
            refine z_lload_n C0 hl 0 rfl dL_sum_175 ?_
            refine z_lmul C0 dL_sum_176 ?_
            refine z_bipush C0 dL_sum_177 (by decide) ?_
            refine z_aload_n C0 hl 1 rfl dL_sum_179 ?_
            refine z_iload_n C0 hl 2 rfl dL_sum_180 ?_
            refine z_invQi (As := [.int (zI (k133 : Int))]) (rest := [.int (zI 20), .long (Int64.ofInt (43 * (((41 * h133) + (10 * (V (72 + 4 * (k133 : Int) + 0)))) + (V (72 + 4 * (k133 : Int) + 1)))))]) C0 Wd hst (hv_received l g zX ad M8169 F8169 hL8169 (k133 : Int) (zR_mk (by omega) (by omega)) ⟨by omega, by omega⟩ ) kv_X11_received zN0 (zE_8 zK0) rfl zk_925 rfl hl.1 rfl (Nat.le_of_ble_eq_true rfl) (by decide) ⟨by show _ ≤ 1710; omega, by show _ ≤ 10260; omega⟩ dL_sum_181 (fun k26 M26 F26 H locs hr26 hp26 Wd => ?_)
            obtain ⟨rfl, hQ26⟩ := hp26
            have hL26 := hQ26.1
            refine z_imul C0 dL_sum_184 ?_
            refine z_i2l C0 (by have q0 := hr26.1; have p0 := hr26.2; exact zR_mk (by omega) (by omega)) dL_sum_185 ?_
            refine z_ladd C0 dL_sum_186 ?_
            refine z_aload_n C0 hl 1 rfl dL_sum_187 ?_
            refine z_iload_n C0 hl 2 rfl dL_sum_188 ?_
            refine z_invSH (As := [.ref (ad 0), .int (zI (k133 : Int))]) (rest := [.long (Int64.ofInt ((43 * (((41 * h133) + (10 * (V (72 + 4 * (k133 : Int) + 0)))) + (V (72 + 4 * (k133 : Int) + 1)))) + (20 * (V (72 + 4 * (k133 : Int) + 2)))))]) C0 Wd hst (hq_latest l g zX ad M26 F26 hL26 (k133 : Int) (zR_mk (by omega) (by omega)) ) hs_latest zk_951 rfl hl.1 rfl (Nat.le_of_ble_eq_true rfl) (by decide) ⟨by show _ ≤ 1710; omega, by show _ ≤ 10260; omega⟩ dL_sum_189 (fun k27 M27 F27 H locs hr27 hp27 Wd => ?_)
            obtain ⟨rfl, hQ27⟩ := hp27
            have hL27 := hQ27.1
            refine z_i2l C0 hr27 dL_sum_192 ?_
            refine z_ladd C0 dL_sum_193 ?_
            refine z_lstore_n C0 hl [(1, .long (Int64.ofInt (((43 * (((41 * h133) + (10 * (V (72 + 4 * (k133 : Int) + 0)))) + (V (72 + 4 * (k133 : Int) + 1)))) + (20 * (V (72 + 4 * (k133 : Int) + 2)))) + (qLa V (k133 : Int))))), (0, .ref (ad 0)), (3, .int (zI (k133 : Int)))] (by decide) rfl dL_sum_194 (fun ls hl => ?_)
            refine z_iinc C0 hl 2 (t := (k133 : Int)) (u := ((k133 : Int) + 1)) rfl (by omega) [(3, .int (zI ((k133 : Int) + 1))), (1, .long (Int64.ofInt (((43 * (((41 * h133) + (10 * (V (72 + 4 * (k133 : Int) + 0)))) + (V (72 + 4 * (k133 : Int) + 1)))) + (20 * (V (72 + 4 * (k133 : Int) + 2)))) + (qLa V (k133 : Int))))), (0, .ref (ad 0))] (by decide) rfl dL_sum_195 (fun ls hl => ?_)
            refine z_goto C0 (tgt := 133) dL_sum_198 (by decide) ?_
            refine W.widen (k := (5 * (k133 + 1) + 1632)) (n := (30 * (k133 + 1) + 9792)) (by omega) (by omega) ?_
            exact ih133 (k133 + 1) (by omega) (((43 * (((41 * h133) + (10 * (V (72 + 4 * (k133 : Int) + 0)))) + (V (72 + 4 * (k133 : Int) + 1)))) + (20 * (V (72 + 4 * (k133 : Int) + 2)))) + (qLa V (k133 : Int))) M27 F27 hL27 (by rw [hs133]; rfl) _ _ _ Wd (lv_sub hl [2, 1, 0] rfl)
          refine z_if_eq C0 (tgt := 168) hr25 dL_sum_161 (by decide) (fun c28 => ?_) (fun c28 => ?_)
          · skip
            refine z_iconst C0 dL_sum_168 ?_
            refine z_top (congrArg zI (show 0 = (V (72 + 4 * (k133 : Int) + 1)) from (by omega))) ?_
            refine W.widen (k := (5 * k133 + 1634)) (n := (30 * k133 + 9804)) (by omega) (by omega) ?_
            exact jn169  M25 F25 hL25  _ _ _ Wd (lv_sub hl [0, 1, 2] rfl)
          · skip
            refine z_iconst C0 dL_sum_164 ?_
            refine z_goto C0 (tgt := 169) dL_sum_165 (by decide) ?_
            refine z_top (congrArg zI (show 1 = (V (72 + 4 * (k133 : Int) + 1)) from (by omega))) ?_
            refine W.widen (k := (5 * k133 + 1634)) (n := (30 * k133 + 9804)) (by omega) (by omega) ?_
            exact jn169  M25 F25 hL25  _ _ _ Wd (lv_sub hl [0, 1, 2] rfl)
    refine W.widen (k := (5 * 0 + 1632)) (n := (30 * 0 + 9792)) (by omega) (by omega) ?_
    exact lp133 (V 1).toNat 0 (by omega) h45 M9045 F9045 hL9045 hz45 _ _ _ Wd (lv_sub hl [1, 2, 0] rfl)
  have lp45 : ∀ (d45 k45 : Nat) (hk45 : (k45 : Int) + d45 = V 0) (h45 : Int) (M9045 F9045 : zMem) (hL9045 : zLw t many V U M9045 F9045) (hs45 : h45 = zfold (sgD V) k45 (31 * (31 * (7 + V 4) + V 5) + 100 * V 6 + V 7)) (H : Heap) (locs : List Loc) (ls : Array Slot) (Wd : zW g (zA (0, 398, zX) ad s.heap.size) s.heap (0, 398, zX) ad M9045 F9045 H locs) (hl : lv_has ls 5 [(0, .ref (ad 0)), (1, .long (Int64.ofInt h45)), (3, .int (zI (k45 : Int)))]), W p l e (zrm 12 1710 10260) s m args below meth c H locs (204 * k45 + 0) (1224 * k45 + 0) (zMQ below g (0, 398, zX) ad (fun v M' F' => v = some (.long (Int64.ofInt (sgV V))) ∧ zLw t many V U M' F') args s 1710 10260) (F0 m 45 ls []) := by
    intro d45
    induction d45 with
    | zero =>
      intro k45 hk45 h45 M9045 F9045 hL9045 hs45 H locs ls Wd hl
      refine z_iload_n C0 hl 2 rfl dL_sum_45 ?_
      refine z_aload_n C0 hl 0 rfl dL_sum_46 ?_
      refine z_invVi (As := []) (rest := [.int (zI (k45 : Int))]) C0 Wd (hv_chamberCount l g zX ad M9045 F9045 hL9045) kv_X11_chamberCount zN0 (zE_8 zK0) rfl zk_773 rfl hl.1 rfl (Nat.le_of_ble_eq_true rfl) (by decide) ⟨by show _ ≤ 1710; omega, by show _ ≤ 10260; omega⟩ dL_sum_47 (fun k29 M29 F29 H locs hr29 hp29 Wd => ?_)
      obtain ⟨rfl, hQ29⟩ := hp29
      have hL29 := hQ29.1
      refine z_icmp_ge C0 (tgt := 131) (zR_mk (by omega) (by omega)) hr29 dL_sum_50 (by decide) (fun c30 => ?_) (fun c30 => ?_)
      · skip
        refine W.widen (k := (1632)) (n := (9792)) (by omega) (by omega) ?_
        exact aft45 k45 (by omega) h45 M29 F29 hL29 (by first | assumption | omega) (by first | assumption | omega) _ _ _ Wd (lv_sub hl [0, 1, 2] rfl)
      · skip
        exfalso; omega
    | succ d45 ih45 =>
      intro k45 hk45 h45 M9045 F9045 hL9045 hs45 H locs ls Wd hl
      refine z_iload_n C0 hl 2 rfl dL_sum_45 ?_
      refine z_aload_n C0 hl 0 rfl dL_sum_46 ?_
      refine z_invVi (As := []) (rest := [.int (zI (k45 : Int))]) C0 Wd (hv_chamberCount l g zX ad M9045 F9045 hL9045) kv_X11_chamberCount zN0 (zE_8 zK0) rfl zk_773 rfl hl.1 rfl (Nat.le_of_ble_eq_true rfl) (by decide) ⟨by show _ ≤ 1710; omega, by show _ ≤ 10260; omega⟩ dL_sum_47 (fun k31 M31 F31 H locs hr31 hp31 Wd => ?_)
      obtain ⟨rfl, hQ31⟩ := hp31
      have hL31 := hQ31.1
      refine z_icmp_ge C0 (tgt := 131) (zR_mk (by omega) (by omega)) hr31 dL_sum_50 (by decide) (fun c32 => ?_) (fun c32 => ?_)
      · skip
        exfalso; omega
      · skip
        refine z_iconst C0 dL_sum_53 ?_
        refine z_istore C0 hl [(4, .int (zI 0)), (0, .ref (ad 0)), (1, .long (Int64.ofInt h45)), (3, .int (zI (k45 : Int)))] (by decide) rfl dL_sum_54 (fun ls hl => ?_)
        have hb56 : (k45 : Int) ≤ 8 := by omega
        have aft56 : ∀ (k56 : Nat) (hk56 : (k56 : Int) ≤ (k45 : Int)) (h56 : Int) (M9056 F9056 : zMem) (hL9056 : zLw t many V U M9056 F9056) (hs56 : h56 = zfold (sgB V (k45 : Int)) k56 h45) (hx56 : (k56 : Int) = (k45 : Int)) (H : Heap) (locs : List Loc) (ls : Array Slot) (Wd : zW g (zA (0, 398, zX) ad s.heap.size) s.heap (0, 398, zX) ad M9056 F9056 H locs) (hl : lv_has ls 5 [(0, .ref (ad 0)), (1, .long (Int64.ofInt h56)), (3, .int (zI (k45 : Int))), (4, .int (zI (k56 : Int)))]), W p l e (zrm 12 1710 10260) s m args below meth c H locs (204 * k45 + 24) (1224 * k45 + 144) (zMQ below g (0, 398, zX) ad (fun v M' F' => v = some (.long (Int64.ofInt (sgV V))) ∧ zLw t many V U M' F') args s 1710 10260) (F0 m 83 ls []) := by
          intro k56 hk56 h56 M9056 F9056 hL9056 hs56 hx56 H locs ls Wd hl
          replace hl : lv_has ls 5 [(0, .ref (ad 0)), (1, .long (Int64.ofInt h56)), (3, .int (zI (k45 : Int)))] := lv_sub hl [0, 1, 2] rfl
          refine z_aload_n C0 hl 0 rfl dL_sum_83 ?_
          refine z_invVi (As := []) (rest := []) C0 Wd (hv_ticks l g zX ad M9056 F9056 hL9056) kv_X11_ticks zN0 (zE_8 zK0) rfl zk_1475 rfl hl.1 rfl (Nat.le_of_ble_eq_true rfl) (by decide) ⟨by show _ ≤ 1710; omega, by show _ ≤ 10260; omega⟩ dL_sum_84 (fun k33 M33 F33 H locs hr33 hp33 Wd => ?_)
          obtain ⟨rfl, hQ33⟩ := hp33
          have hL33 := hQ33.1
          refine z_bipush C0 dL_sum_87 (by decide) ?_
          refine z_isub C0 dL_sum_89 ?_
          refine z_top (congrArg zI (show V 4 - 20 = V 4 - 20 + ((0 : Nat) : Int) by omega)) ?_
          refine z_istore C0 hl [(4, .int (zI (V 4 - 20 + ((0 : Nat) : Int)))), (0, .ref (ad 0)), (1, .long (Int64.ofInt h56)), (3, .int (zI (k45 : Int)))] (by decide) rfl dL_sum_90 (fun ls hl => ?_)
          have hb92 : 90 ≤ 90 := by omega
          have aft92 : ∀ (k92 : Nat) (hk92 : (k92 : Int) ≤ 90) (h92 : Int) (M9092 F9092 : zMem) (hL9092 : zLw t many V U M9092 F9092) (hs92 : h92 = zfold (sgC V (k45 : Int)) k92 h56) (hx92 : (k92 : Int) = 90) (H : Heap) (locs : List Loc) (ls : Array Slot) (Wd : zW g (zA (0, 398, zX) ad s.heap.size) s.heap (0, 398, zX) ad M9092 F9092 H locs) (hl : lv_has ls 5 [(0, .ref (ad 0)), (1, .long (Int64.ofInt h92)), (3, .int (zI (k45 : Int))), (4, .int (zI (V 4 - 20 + (k92 : Int))))]), W p l e (zrm 12 1710 10260) s m args below meth c H locs (204 * k45 + 204) (1224 * k45 + 1224) (zMQ below g (0, 398, zX) ad (fun v M' F' => v = some (.long (Int64.ofInt (sgV V))) ∧ zLw t many V U M' F') args s 1710 10260) (F0 m 125 ls []) := by
            intro k92 hk92 h92 M9092 F9092 hL9092 hs92 hx92 H locs ls Wd hl
            replace hl : lv_has ls 5 [(0, .ref (ad 0)), (1, .long (Int64.ofInt h92)), (3, .int (zI (k45 : Int)))] := lv_sub hl [0, 1, 2] rfl
            refine z_iinc C0 hl 2 (t := (k45 : Int)) (u := ((k45 : Int) + 1)) rfl (by omega) [(3, .int (zI ((k45 : Int) + 1))), (0, .ref (ad 0)), (1, .long (Int64.ofInt h92))] (by decide) rfl dL_sum_125 (fun ls hl => ?_)
            refine z_goto C0 (tgt := 45) dL_sum_128 (by decide) ?_
            refine W.widen (k := (204 * (k45 + 1) + 0)) (n := (1224 * (k45 + 1) + 0)) (by omega) (by omega) ?_
            exact ih45 (k45 + 1) (by omega) h92 M9092 F9092 hL9092 (by rw [hs92, show k92 = 90 by omega, hs56, show k56 = (k45 : Int).toNat by omega, hs45]; rfl) _ _ _ Wd (lv_sub hl [1, 2, 0] rfl)
          have lp92 : ∀ (d92 k92 : Nat) (hk92 : (k92 : Int) + d92 = 90) (h92 : Int) (M9092 F9092 : zMem) (hL9092 : zLw t many V U M9092 F9092) (hs92 : h92 = zfold (sgC V (k45 : Int)) k92 h56) (H : Heap) (locs : List Loc) (ls : Array Slot) (Wd : zW g (zA (0, 398, zX) ad s.heap.size) s.heap (0, 398, zX) ad M9092 F9092 H locs) (hl : lv_has ls 5 [(0, .ref (ad 0)), (1, .long (Int64.ofInt h92)), (3, .int (zI (k45 : Int))), (4, .int (zI (V 4 - 20 + (k92 : Int))))]), W p l e (zrm 12 1710 10260) s m args below meth c H locs (2 * k92 + 204 * k45 + 24) (12 * k92 + 1224 * k45 + 144) (zMQ below g (0, 398, zX) ad (fun v M' F' => v = some (.long (Int64.ofInt (sgV V))) ∧ zLw t many V U M' F') args s 1710 10260) (F0 m 92 ls []) := by
            intro d92
            induction d92 with
            | zero =>
              intro k92 hk92 h92 M9092 F9092 hL9092 hs92 H locs ls Wd hl
              refine z_iload C0 hl 3 rfl dL_sum_92 ?_
              refine z_aload_n C0 hl 0 rfl dL_sum_94 ?_
              refine z_invVi (As := []) (rest := [.int (zI (V 4 - 20 + (k92 : Int)))]) C0 Wd (hv_ticks l g zX ad M9092 F9092 hL9092) kv_X11_ticks zN0 (zE_8 zK0) rfl zk_1475 rfl hl.1 rfl (Nat.le_of_ble_eq_true rfl) (by decide) ⟨by show _ ≤ 1710; omega, by show _ ≤ 10260; omega⟩ dL_sum_95 (fun k34 M34 F34 H locs hr34 hp34 Wd => ?_)
              obtain ⟨rfl, hQ34⟩ := hp34
              have hL34 := hQ34.1
              refine z_bipush C0 dL_sum_98 (by decide) ?_
              refine z_iadd C0 dL_sum_100 ?_
              refine z_icmp_ge C0 (tgt := 125) (zR_mk (by omega) (by omega)) (by have q0 := hr34.1; have p0 := hr34.2; exact zR_mk (by omega) (by omega)) dL_sum_101 (by decide) (fun c35 => ?_) (fun c35 => ?_)
              · skip
                refine W.widen (k := (204 * k45 + 204)) (n := (1224 * k45 + 1224)) (by omega) (by omega) ?_
                exact aft92 k92 (by omega) h92 M34 F34 hL34 (by first | assumption | omega) (by first | assumption | omega) _ _ _ Wd (lv_sub hl [0, 1, 2, 3] rfl)
              · skip
                exfalso; omega
            | succ d92 ih92 =>
              intro k92 hk92 h92 M9092 F9092 hL9092 hs92 H locs ls Wd hl
              refine z_iload C0 hl 3 rfl dL_sum_92 ?_
              refine z_aload_n C0 hl 0 rfl dL_sum_94 ?_
              refine z_invVi (As := []) (rest := [.int (zI (V 4 - 20 + (k92 : Int)))]) C0 Wd (hv_ticks l g zX ad M9092 F9092 hL9092) kv_X11_ticks zN0 (zE_8 zK0) rfl zk_1475 rfl hl.1 rfl (Nat.le_of_ble_eq_true rfl) (by decide) ⟨by show _ ≤ 1710; omega, by show _ ≤ 10260; omega⟩ dL_sum_95 (fun k36 M36 F36 H locs hr36 hp36 Wd => ?_)
              obtain ⟨rfl, hQ36⟩ := hp36
              have hL36 := hQ36.1
              refine z_bipush C0 dL_sum_98 (by decide) ?_
              refine z_iadd C0 dL_sum_100 ?_
              refine z_icmp_ge C0 (tgt := 125) (zR_mk (by omega) (by omega)) (by have q0 := hr36.1; have p0 := hr36.2; exact zR_mk (by omega) (by omega)) dL_sum_101 (by decide) (fun c37 => ?_) (fun c37 => ?_)
              · skip
                exfalso; omega
              · skip
                refine z_ldc2 C0 zk_1485 (r := 3) rfl dL_sum_104 ?_
                refine z_lload_n C0 hl 1 rfl dL_sum_107 ?_
                refine z_lmul C0 dL_sum_108 ?_
                refine z_aload_n C0 hl 0 rfl dL_sum_109 ?_
                refine z_iload_n C0 hl 2 rfl dL_sum_110 ?_
                refine z_iload C0 hl 3 rfl dL_sum_111 ?_
                refine z_invQi (As := [.int (zI (k45 : Int)), .int (zI (V 4 - 20 + (k92 : Int)))]) (rest := [.long (Int64.ofInt (3 * h92))]) C0 Wd hst (hv_thumpsHeard l g zX ad M36 F36 hL36 (k45 : Int) (zR_mk (by omega) (by omega)) (V 4 - 20 + (k92 : Int)) (zR_mk (by omega) (by omega)) ⟨⟨by omega, by omega⟩, by omega, by omega⟩ (by omega)) kv_X11_thumpsHeard zN0 (zE_8 zK0) rfl zk_1486 rfl hl.1 rfl (Nat.le_of_ble_eq_true rfl) (by decide) ⟨by show _ ≤ 1710; omega, by show _ ≤ 10260; omega⟩ dL_sum_113 (fun k38 M38 F38 H locs hr38 hp38 Wd => ?_)
                obtain ⟨rfl, hQ38⟩ := hp38
                have hL38 := hQ38.1
                refine z_i2l C0 hr38 dL_sum_116 ?_
                refine z_ladd C0 dL_sum_117 ?_
                refine z_lstore_n C0 hl [(1, .long (Int64.ofInt ((3 * h92) + (V (472 + 128 * (k45 : Int) + (V 4 - 20 + (k92 : Int)) % 128))))), (0, .ref (ad 0)), (3, .int (zI (k45 : Int))), (4, .int (zI (V 4 - 20 + (k92 : Int))))] (by decide) rfl dL_sum_118 (fun ls hl => ?_)
                refine z_iinc C0 hl 3 (t := (V 4 - 20 + (k92 : Int))) (u := (V 4 - 20 + ((k92 + 1 : Nat) : Int))) rfl (by omega) [(4, .int (zI (V 4 - 20 + ((k92 + 1 : Nat) : Int)))), (1, .long (Int64.ofInt ((3 * h92) + (V (472 + 128 * (k45 : Int) + (V 4 - 20 + (k92 : Int)) % 128))))), (0, .ref (ad 0)), (3, .int (zI (k45 : Int)))] (by decide) rfl dL_sum_119 (fun ls hl => ?_)
                refine z_goto C0 (tgt := 92) dL_sum_122 (by decide) ?_
                refine W.widen (k := (2 * (k92 + 1) + 204 * k45 + 24)) (n := (12 * (k92 + 1) + 1224 * k45 + 144)) (by omega) (by omega) ?_
                exact ih92 (k92 + 1) (by omega) (3 * h92 + V (472 + 128 * (k45 : Int) + (V 4 - 20 + (k92 : Int)) % 128)) M38 F38 hL38 (by rw [hs92]; rfl) _ _ _ Wd (lv_sub hl [2, 1, 3, 0] rfl)
          refine W.widen (k := (2 * 0 + 204 * k45 + 24)) (n := (12 * 0 + 1224 * k45 + 144)) (by omega) (by omega) ?_
          exact lp92 90 0 (by omega) h56 M33 F33 hL33 rfl _ _ _ Wd (lv_sub hl [1, 2, 3, 0] rfl)
        have lp56 : ∀ (d56 k56 : Nat) (hk56 : (k56 : Int) + d56 = (k45 : Int)) (h56 : Int) (M9056 F9056 : zMem) (hL9056 : zLw t many V U M9056 F9056) (hs56 : h56 = zfold (sgB V (k45 : Int)) k56 h45) (H : Heap) (locs : List Loc) (ls : Array Slot) (Wd : zW g (zA (0, 398, zX) ad s.heap.size) s.heap (0, 398, zX) ad M9056 F9056 H locs) (hl : lv_has ls 5 [(0, .ref (ad 0)), (1, .long (Int64.ofInt h56)), (3, .int (zI (k45 : Int))), (4, .int (zI (k56 : Int)))]), W p l e (zrm 12 1710 10260) s m args below meth c H locs (3 * k56 + 204 * k45 + 0) (18 * k56 + 1224 * k45 + 0) (zMQ below g (0, 398, zX) ad (fun v M' F' => v = some (.long (Int64.ofInt (sgV V))) ∧ zLw t many V U M' F') args s 1710 10260) (F0 m 56 ls []) := by
          intro d56
          induction d56 with
          | zero =>
            intro k56 hk56 h56 M9056 F9056 hL9056 hs56 H locs ls Wd hl
            refine z_iload C0 hl 3 rfl dL_sum_56 ?_
            refine z_iload_n C0 hl 2 rfl dL_sum_58 ?_
            refine z_icmp_ge C0 (tgt := 83) (zR_mk (by omega) (by omega)) (zR_mk (by omega) (by omega)) dL_sum_59 (by decide) (fun c39 => ?_) (fun c39 => ?_)
            · skip
              refine W.widen (k := (204 * k45 + 24)) (n := (1224 * k45 + 144)) (by omega) (by omega) ?_
              exact aft56 k56 (by omega) h56 M9056 F9056 hL9056 (by first | assumption | omega) (by first | assumption | omega) _ _ _ Wd (lv_sub hl [0, 1, 2, 3] rfl)
            · skip
              exfalso; omega
          | succ d56 ih56 =>
            intro k56 hk56 h56 M9056 F9056 hL9056 hs56 H locs ls Wd hl
            refine z_iload C0 hl 3 rfl dL_sum_56 ?_
            refine z_iload_n C0 hl 2 rfl dL_sum_58 ?_
            refine z_icmp_ge C0 (tgt := 83) (zR_mk (by omega) (by omega)) (zR_mk (by omega) (by omega)) dL_sum_59 (by decide) (fun c40 => ?_) (fun c40 => ?_)
            · skip
              exfalso; omega
            · skip
              refine z_ldc2 C0 zk_1484 (r := 37) rfl dL_sum_62 ?_
              refine z_lload_n C0 hl 1 rfl dL_sum_65 ?_
              refine z_lmul C0 dL_sum_66 ?_
              refine z_aload_n C0 hl 0 rfl dL_sum_67 ?_
              refine z_iload_n C0 hl 2 rfl dL_sum_68 ?_
              refine z_iload C0 hl 3 rfl dL_sum_69 ?_
              refine z_invSH (As := [.ref (ad 0), .int (zI (k45 : Int)), .int (zI (k56 : Int))]) (rest := [.long (Int64.ofInt (37 * h56))]) C0 Wd hst (hq_delayOf l g zX ad M9056 F9056 hL9056 (k45 : Int) (zR_mk (by omega) (by omega)) (k56 : Int) (zR_mk (by omega) (by omega)) ) hs_delayOf zk_777 rfl hl.1 rfl (Nat.le_of_ble_eq_true rfl) (by decide) ⟨by show _ ≤ 1710; omega, by show _ ≤ 10260; omega⟩ dL_sum_71 (fun k41 M41 F41 H locs hr41 hp41 Wd => ?_)
              obtain ⟨rfl, hQ41⟩ := hp41
              have hL41 := hQ41.1
              refine z_i2l C0 hr41 dL_sum_74 ?_
              refine z_ladd C0 dL_sum_75 ?_
              refine z_lstore_n C0 hl [(1, .long (Int64.ofInt ((37 * h56) + (qDl V (k45 : Int) (k56 : Int))))), (0, .ref (ad 0)), (3, .int (zI (k45 : Int))), (4, .int (zI (k56 : Int)))] (by decide) rfl dL_sum_76 (fun ls hl => ?_)
              refine z_iinc C0 hl 3 (t := (k56 : Int)) (u := ((k56 : Int) + 1)) rfl (by omega) [(4, .int (zI ((k56 : Int) + 1))), (1, .long (Int64.ofInt ((37 * h56) + (qDl V (k45 : Int) (k56 : Int))))), (0, .ref (ad 0)), (3, .int (zI (k45 : Int)))] (by decide) rfl dL_sum_77 (fun ls hl => ?_)
              refine z_goto C0 (tgt := 56) dL_sum_80 (by decide) ?_
              refine W.widen (k := (3 * (k56 + 1) + 204 * k45 + 0)) (n := (18 * (k56 + 1) + 1224 * k45 + 0)) (by omega) (by omega) ?_
              exact ih56 (k56 + 1) (by omega) (37 * h56 + qDl V (k45 : Int) (k56 : Int)) M41 F41 hL41 (by rw [hs56]; rfl) _ _ _ Wd (lv_sub hl [2, 1, 3, 0] rfl)
        refine W.widen (k := (3 * 0 + 204 * k45 + 0)) (n := (18 * 0 + 1224 * k45 + 0)) (by omega) (by omega) ?_
        exact lp56 ((k45 : Int)).toNat 0 (by omega) h45 M31 F31 hL31 rfl _ _ _ Wd (lv_sub hl [1, 2, 3, 0] rfl)
  refine W.widen (k := (204 * 0 + 0)) (n := (1224 * 0 + 0)) (by omega) (by omega) ?_
  exact lp45 (V 0).toNat 0 (by omega) (31 * (31 * (7 + V 4) + V 5) + 100 * V 6 + V 7) M4 F4 hL4 rfl _ _ _ Wd (lv_sub hl [2, 1, 0] rfl)
