/-! the codes -/
section ZRW
variable {g : zG} {A : Nat → Prop} {p : Program} {l : Launch} {e : Env} {R : Room} {s : State} {m : MethodId} {args : Array Value} {below : List Frame} {meth : Method} {c : Code} {H : Heap} {locs : List Loc} {cells slots : Nat} {Q : State → Prop}
variable {cc : ByteArray} {nL : Nat} {own : String} {pc : Nat} {ls : Array Slot} {rest st0 : List Value} {ad : Int → Nat} {M F : zMem} {X0 w2 : va_W} {lo : Int} {hi : Nat} {mc ms : Nat} {q : Nat × Nat × List Int32}
theorem z_ldcrw (C0 : zC g A p s m args c cc nL own) {tx : String} {index a : Nat} (hZ : vk_R own index tx a s) (hdg : decode cc pc = .ok (.ldc_w index, 3)) (k : W p l e R s m args below meth c H locs cells slots Q (F0 m (pc + 3) ls (.ref a :: rest))) : W p l e R s m args below meth c H locs cells slots Q (F0 m pc ls rest) := by
  intro T hT X
  obtain ⟨t, a1, b1⟩ := k T hT X
  exact ⟨t, X.ldcStringW C0.1.1 C0.1.2.2.2.1 (text := tx) (a := a) hZ.1 hZ.2 (g := F0 m pc ls rest) rfl (by rw [C0.1.2.1]; exact hdg) t a1, b1⟩
theorem z_ixor (C0 : zC g A p s m args c cc nL own) {x y : Int32} {v : Int} (hv : x ^^^ y = zI v) (hdg : decode cc pc = .ok (.ixor, 1)) (k : W p l e R s m args below meth c H locs cells slots Q (F0 m (pc + 1) ls (.int (zI v) :: rest))) : W p l e R s m args below meth c H locs cells slots Q (F0 m pc ls (.int y :: .int x :: rest)) := lv_ixor C0.1.1 C0.1.2.1 hdg (by rw [hv]; exact k)
/-- the law's own method that reads a String of the world -/
theorem z_invT {post : Option Value → zMem → zMem → Prop} {y : MethodName} {cc' : ByteArray} {nL' : Nat} {ret' : Option FieldType} {d n idx : Nat} {As : List Value} (C0 : zC g A p s m args c cc nL own) (Wd : zW g A s.heap (lo, hi, w2 ++ X0) ad M F H locs) (hM : zMs l y cc' nL' ret' d mc ms g (lo, hi, X0) ad [q] As M F post) (kv : zKS y cc' nL' ret' n) (hq : zTR g w2 q) (hlink : Cond.methodLink own idx y ∈ zT) (hn : As.length = n) (hsz : ls.size = nL) (hst0 : st0 = As.reverse ++ rest) (hst : (rest.map fun v => v.category).sum ≤ 8) (hR : d + 1 ≤ R.frames ∧ 8 + (nL' + 11) + 60 * d ≤ R.locals) (hf : cells + mc ≤ R.cells ∧ slots + ms ≤ R.slots) (hdg : decode cc pc = .ok (.invokestatic idx, 3))
    (kk : ∀ (v : Option Value) (M' F' : zMem) (H1 : Heap) (locs1 : List Loc), post v M' F' → zW g A s.heap (lo, hi, X0) ad M' F' H1 locs1 → W p l e R s m args below meth c H1 locs1 (cells + mc) (slots + ms) Q (F0 m (pc + 3) ls (v.toList ++ rest))) : W p l e R s m args below meth c H locs cells slots Q (F0 m pc ls st0) := by
  obtain ⟨k1, k2, k3, k4, k5, k6⟩ := kv
  have Wr : rW g A s.heap (w2 ++ wl g (lo, hi, X0) ad M F) H locs := rW.perm (zW_r Wd) wl_cons.symm
  exact r_callZ (va_runS (As := As) (rest := rest) C0.1 (hM H.size) ⟨z_callB C0 k1 k3 ⟨k4, k5, k6⟩ hlink hR, C0.1.2.2.2.2 _ k2⟩ ⟨zPreS_blind, r_zpre C0 Wr Wd.2 (fun z hz => by rw [List.mem_singleton.mp hz]; exact zTR_z C0 Wr hq) _⟩ rfl hn hsz hst0 (lv_room hst) hdg hf) C0 Wr (fun v M1 F1 H1 locs1 hp hR1 Wr => kk v M1 F1 H1 locs1 hp (r_zW (rW.sub Wr (List.sublist_append_right _ _)) hR1))
end ZRW
theorem zc_tx {g : zG} {ws : va_W} {c : Int × Int × List Int32} (h : c ∈ zTxt) : zTR g ws (g.2.2.2 c.1, g.2.2.2 c.2.1, c.2.2) := Or.inr ⟨c, h, rfl⟩
/-- many and code after so many beats -/
def zms (n : Int) (k : Nat) : Int := zfold (fun b c => c + zbt n b) k 0
def zcs (n : Int) (k : Nat) : Int := zfold (fun b c => 2 * c + zbt n b) k 0
def zcx (n : Int) : Int := zcd n + 1 - 2 * (zcd n % 2)
theorem cd_1 : ∀ n : Fin 16, ∀ b : Fin 4, zI (n.val : Int) &&& (zI 8 >>> (zI (b.val : Int) &&& 31)) = zI (zbt (n.val : Int) (b.val : Int) * (8 / 2 ^ b.val)) ∧ zI 8 >>> (zI (b.val : Int) &&& 31) = zI (8 / 2 ^ b.val) ∧ 0 < (8 : Int) / 2 ^ b.val ∧ (8 : Int) / 2 ^ b.val ≤ 8 := by decide +kernel
theorem cd_2 : ∀ n : Fin 16, zms (n.val : Int) 4 % 2 = zbt (n.val : Int) 4 ∧ zms (n.val : Int) 5 % 2 = 0 ∧ zcs (n.val : Int) 5 = zcd (n.val : Int) ∧ qDe (zcd (n.val : Int)) = (n.val : Int) ∧ zI (zcd (n.val : Int)) ^^^ zI 1 = zI (zcx (n.val : Int)) ∧ qDe (zcx (n.val : Int)) = -13 ∧ 0 ≤ zcx (n.val : Int) ∧ zcx (n.val : Int) ≤ 31 := by decide +kernel
theorem cd_bit {n b : Int} (hn : 0 ≤ n ∧ n < 16) (hb : 0 ≤ b ∧ b < 4) : ∃ sh, zI 8 >>> (zI b &&& 31) = zI sh ∧ ∃ w, zI n &&& zI sh = zI w ∧ (0 ≤ w ∧ w ≤ 8) ∧ (w = 0 ↔ zbt n b = 0) := by
  obtain ⟨h1, h2, h3, h4⟩ := cd_1 ⟨n.toNat, by omega⟩ ⟨b.toNat, by omega⟩
  have en : ((n.toNat : Nat) : Int) = n := by omega
  have eb : ((b.toNat : Nat) : Int) = b := by omega
  simp only [en, eb] at h1 h2
  rw [h2] at h1
  refine ⟨_, h2, _, h1, ?_⟩
  simp only at h3 h4
  generalize (8 : Int) / 2 ^ b.toNat = z at *
  rcases zbt_01 n b with e | e <;> rw [e] <;> omega
theorem cd_n {n : Int} (hn : 0 ≤ n ∧ n < 16) : zms n 4 % 2 = zbt n 4 ∧ zms n 5 % 2 = 0 ∧ zcs n 5 = zcd n ∧ qDe (zcd n) = n ∧ zI (zcd n) ^^^ zI 1 = zI (zcx n) ∧ qDe (zcx n) = -13 ∧ 0 ≤ zcx n ∧ zcx n ≤ 31 := by
  have h := cd_2 ⟨n.toNat, by omega⟩
  have en : ((n.toNat : Nat) : Int) = n := by omega
  simp only [en] at h
  exact h
theorem qTh_in {n b : Int} (hn : 0 ≤ n ∧ n < 16) (hb : 0 ≤ b ∧ b < 5) : qTh n b = zbt n b := by
  unfold qTh
  rw [if_pos ⟨hn.1, by omega⟩, if_pos hb, zbt_is hn hb]
  rcases zbt_01 n b with e | e <;> rw [e] <;> rfl
set_option maxHeartbeats 4000000 in
set_option maxRecDepth 100000 in
theorem lw_codes (l : Launch) (g : zG) (zX : va_W) (ad : Int → Nat) (M F : zMem) {t many : Int} {V : Int → Int} {U : Int → Int → Int} (hL : zLw t many V U M F) (hst : l.stackTraces = false) : zMt l yL_codes cL_codes 8 (some .boolean) 12 807 9642 g (0, 398, zX) ad [.ref (ad 0)] M F (zPi (fun k M' F' => k = 1 ∧ zLw t many V U M' F')) := by
  refine zMt.of "DrumWarrenLaw" rfl (by decide +kernel) (Nat.le_of_ble_eq_true rfl) (fun {p e s m args below meth c ls} C0 Wd hl hret hlk hin => ?_)
  have hl : lv_has ls 8 [(0, .ref (ad 0))] := hl
  refine z_iconst C0 dL_codes_0 ?_
  refine z_istore_n C0 hl [(1, .int (zI 0)), (0, .ref (ad 0))] (by decide) rfl dL_codes_1 (fun ls hl => ?_)
  have hb2 : 16 ≤ 16 := by omega
  have aft2 : ∀ (k2 : Nat) (hk2 : (k2 : Int) ≤ 16) (M9002 F9002 : zMem) (hL9002 : zLw t many V U M9002 F9002) (hx2 : (k2 : Int) = 16) (H : Heap) (locs : List Loc) (ls : Array Slot) (Wd : zW g (zA (0, 398, zX) ad s.heap.size) s.heap (0, 398, zX) ad M9002 F9002 H locs) (hl : lv_has ls 8 [(0, .ref (ad 0)), (1, .int (zI (k2 : Int)))]), W p l e (zrm 12 807 9642) s m args below meth c H locs (800) (9600) (zMQ below g (0, 398, zX) ad (zPi (fun k M' F' => k = 1 ∧ zLw t many V U M' F')) args s 807 9642) (F0 m 193 ls []) := by
    intro k2 hk2 M9002 F9002 hL9002 hx2 H locs ls Wd hl
    replace hl : lv_has ls 8 [(0, .ref (ad 0))] := lv_sub hl [0] rfl
    refine z_aload_n C0 hl 0 rfl dL_codes_193 ?_
    refine z_bipush C0 dL_codes_194 (by decide) ?_
    refine z_bipush C0 dL_codes_196 (by decide) ?_
    refine z_invSH (As := [.ref (ad 0), .int (zI 16), .int (zI 9)]) (rest := []) C0 Wd hst (hq_isThump l g zX ad M9002 F9002 hL9002 16 (zR_mk (by decide) (by decide)) 9 (zR_mk (by decide) (by decide)) ) hs_isThump zk_1436 rfl hl.1 rfl (Nat.le_of_ble_eq_true rfl) (by decide) ⟨by show _ ≤ 807; omega, by show _ ≤ 9642; omega⟩ dL_codes_198 (fun k1 M1 F1 H locs hr1 hp1 Wd => ?_)
    obtain ⟨rfl, hQ1⟩ := hp1
    have hL1 := hQ1.1
    obtain ⟨he2, hr1⟩ : (qTh 16 9) = (-12) ∧ zR (-12) := (fun q => ⟨q, q ▸ hr1⟩) (by decide)
    refine z_top (congrArg zI he2) ?_
    clear he2
    refine z_bipush C0 dL_codes_201 (by decide) ?_
    refine z_icmp_ne C0 (tgt := 253) (zR_mk (by decide) (by decide)) (zR_mk (by decide) (by decide)) dL_codes_203 (by decide) (fun h => absurd h (by decide)) (fun _ => ?_)
    refine z_aload_n C0 hl 0 rfl dL_codes_206 ?_
    refine z_iconst C0 dL_codes_207 ?_
    refine z_iconst C0 dL_codes_208 ?_
    refine z_invSH (As := [.ref (ad 0), .int (zI 0), .int (zI 5)]) (rest := []) C0 Wd hst (hq_isThump l g zX ad M1 F1 hL1 0 (zR_mk (by decide) (by decide)) 5 (zR_mk (by decide) (by decide)) ) hs_isThump zk_1436 rfl hl.1 rfl (Nat.le_of_ble_eq_true rfl) (by decide) ⟨by show _ ≤ 807; omega, by show _ ≤ 9642; omega⟩ dL_codes_209 (fun k4 M4 F4 H locs hr4 hp4 Wd => ?_)
    obtain ⟨rfl, hQ4⟩ := hp4
    have hL4 := hQ4.1
    obtain ⟨he5, hr4⟩ : (qTh 0 5) = (-11) ∧ zR (-11) := (fun q => ⟨q, q ▸ hr4⟩) (by decide)
    refine z_top (congrArg zI he5) ?_
    clear he5
    refine z_bipush C0 dL_codes_212 (by decide) ?_
    refine z_icmp_ne C0 (tgt := 253) (zR_mk (by decide) (by decide)) (zR_mk (by decide) (by decide)) dL_codes_214 (by decide) (fun h => absurd h (by decide)) (fun _ => ?_)
    refine z_aload_n C0 hl 0 rfl dL_codes_217 ?_
    refine z_bipush C0 dL_codes_218 (by decide) ?_
    refine z_invSH (As := [.ref (ad 0), .int (zI 32)]) (rest := []) C0 Wd hst (hq_decode l g zX ad M4 F4 hL4 32 (zR_mk (by decide) (by decide)) ) hs_decode zk_1452 rfl hl.1 rfl (Nat.le_of_ble_eq_true rfl) (by decide) ⟨by show _ ≤ 807; omega, by show _ ≤ 9642; omega⟩ dL_codes_220 (fun k7 M7 F7 H locs hr7 hp7 Wd => ?_)
    obtain ⟨rfl, hQ7⟩ := hp7
    have hL7 := hQ7.1
    obtain ⟨he8, hr7⟩ : (qDe 32) = (-12) ∧ zR (-12) := (fun q => ⟨q, q ▸ hr7⟩) (by decide)
    refine z_top (congrArg zI he8) ?_
    clear he8
    refine z_bipush C0 dL_codes_223 (by decide) ?_
    refine z_icmp_ne C0 (tgt := 253) (zR_mk (by decide) (by decide)) (zR_mk (by decide) (by decide)) dL_codes_225 (by decide) (fun h => absurd h (by decide)) (fun _ => ?_)
    refine z_aload_n C0 hl 0 rfl dL_codes_228 ?_
    refine z_iconst C0 dL_codes_229 ?_
    refine z_invSH (As := [.ref (ad 0), .int (zI (-1))]) (rest := []) C0 Wd hst (hq_decode l g zX ad M7 F7 hL7 (-1) (zR_mk (by decide) (by decide)) ) hs_decode zk_1452 rfl hl.1 rfl (Nat.le_of_ble_eq_true rfl) (by decide) ⟨by show _ ≤ 807; omega, by show _ ≤ 9642; omega⟩ dL_codes_230 (fun k10 M10 F10 H locs hr10 hp10 Wd => ?_)
    obtain ⟨rfl, hQ10⟩ := hp10
    have hL10 := hQ10.1
    obtain ⟨he11, hr10⟩ : (qDe (-1)) = (-12) ∧ zR (-12) := (fun q => ⟨q, q ▸ hr10⟩) (by decide)
    refine z_top (congrArg zI he11) ?_
    clear he11
    refine z_bipush C0 dL_codes_233 (by decide) ?_
    refine z_icmp_ne C0 (tgt := 253) (zR_mk (by decide) (by decide)) (zR_mk (by decide) (by decide)) dL_codes_235 (by decide) (fun h => absurd h (by decide)) (fun _ => ?_)
    refine z_aload_n C0 hl 0 rfl dL_codes_238 ?_
    refine z_bipush C0 dL_codes_239 (by decide) ?_
    refine z_invSH (As := [.ref (ad 0), .int (zI 16)]) (rest := []) C0 Wd hst (hq_writeCode l g zX ad M10 F10 hL10 16 (zR_mk (by decide) (by decide)) ) hs_writeCode zk_1461 rfl hl.1 rfl (Nat.le_of_ble_eq_true rfl) (by decide) ⟨by show _ ≤ 807; omega, by show _ ≤ 9642; omega⟩ dL_codes_241 (fun k13 M13 F13 H locs hr13 hp13 Wd => ?_)
    obtain ⟨-, rfl, hQ13⟩ := hp13.resolve_left (fun q => by have := q.1; omega)
    have hL13 := hQ13.1
    refine z_bipush C0 dL_codes_244 (by decide) ?_
    refine z_icmp_ne C0 (tgt := 253) (zR_mk (by decide) (by decide)) (zR_mk (by decide) (by decide)) dL_codes_246 (by decide) (fun h => absurd h (by decide)) (fun _ => ?_)
    refine z_iconst C0 dL_codes_249 ?_
    refine z_goto C0 (tgt := 254) dL_codes_250 (by decide) ?_
    refine W.widen (k := 807) (n := 9642) (by omega) (by omega) ?_
    exact z_zret C0 Wd hret hlk (by first | exact Or.inl rfl | exact Or.inr rfl) ⟨rfl, hL13⟩ dL_codes_254
  have lp2 : ∀ (d2 k2 : Nat) (hk2 : (k2 : Int) + d2 = 16) (M9002 F9002 : zMem) (hL9002 : zLw t many V U M9002 F9002) (H : Heap) (locs : List Loc) (ls : Array Slot) (Wd : zW g (zA (0, 398, zX) ad s.heap.size) s.heap (0, 398, zX) ad M9002 F9002 H locs) (hl : lv_has ls 8 [(0, .ref (ad 0)), (1, .int (zI (k2 : Int)))]), W p l e (zrm 12 807 9642) s m args below meth c H locs (50 * k2 + 0) (600 * k2 + 0) (zMQ below g (0, 398, zX) ad (zPi (fun k M' F' => k = 1 ∧ zLw t many V U M' F')) args s 807 9642) (F0 m 2 ls []) := by
    intro d2
    induction d2 with
    | zero =>
      intro k2 hk2 M9002 F9002 hL9002 H locs ls Wd hl
      refine z_iload_n C0 hl 1 rfl dL_codes_2 ?_
      refine z_bipush C0 dL_codes_3 (by decide) ?_
      refine z_icmp_ge C0 (tgt := 193) (zR_mk (by omega) (by omega)) (zR_mk (by decide) (by decide)) dL_codes_5 (by decide) (fun c15 => ?_) (fun c15 => ?_)
      · skip
        refine W.widen (k := (800)) (n := (9600)) (by omega) (by omega) ?_
        exact aft2 k2 (by omega)  M9002 F9002 hL9002  (by first | assumption | omega) _ _ _ Wd (lv_sub hl [0, 1] rfl)
      · skip
        exfalso; omega
    | succ d2 ih2 =>
      intro k2 hk2 M9002 F9002 hL9002 H locs ls Wd hl
      refine z_iload_n C0 hl 1 rfl dL_codes_2 ?_
      refine z_bipush C0 dL_codes_3 (by decide) ?_
      refine z_icmp_ge C0 (tgt := 193) (zR_mk (by omega) (by omega)) (zR_mk (by decide) (by decide)) dL_codes_5 (by decide) (fun c16 => ?_) (fun c16 => ?_)
      · skip
        exfalso; omega
      · skip
        refine z_iconst C0 dL_codes_8 ?_
        refine z_istore_n C0 hl [(2, .int (zI 0)), (0, .ref (ad 0)), (1, .int (zI (k2 : Int)))] (by decide) rfl dL_codes_9 (fun ls hl => ?_)
        refine z_iconst C0 dL_codes_10 ?_
        refine z_istore_n C0 hl [(3, .int (zI 0)), (2, .int (zI 0)), (0, .ref (ad 0)), (1, .int (zI (k2 : Int)))] (by decide) rfl dL_codes_11 (fun ls hl => ?_)
        refine z_ldcrw (tx := "") (a := g.2.2.2 44) C0 (zc_r C0 (q := ("DrumWarrenLaw", 335, "", 44)) (by decide +kernel)) dL_codes_12 ?_
        refine z_astore C0 hl [(4, .ref (g.2.2.2 44)), (3, .int (zI 0)), (2, .int (zI 0)), (0, .ref (ad 0)), (1, .int (zI (k2 : Int)))] (by decide) rfl dL_codes_15 (fun ls hl => ?_)
        refine z_iconst C0 dL_codes_17 ?_
        refine z_istore C0 hl [(5, .int (zI 0)), (4, .ref (g.2.2.2 44)), (3, .int (zI 0)), (2, .int (zI 0)), (0, .ref (ad 0)), (1, .int (zI (k2 : Int)))] (by decide) rfl dL_codes_18 (fun ls hl => ?_)
        have hb20 : 5 ≤ 5 := by omega
        have aft20 : ∀ (k20 : Nat) (hk20 : (k20 : Int) ≤ 5) (wr : va_W) (q20 : Nat × Nat × List Int32) (cd : Int) (mn : Int) (M9020 F9020 : zMem) (hL9020 : zLw t many V U M9020 F9020) (hq20 : zTR g wr q20) (hql20 : zLt q20.2.2) (hqb20 : q20.2.2.map Int32.toInt = zct5 (k2 : Int) k20) (hcd : cd = zcs (k2 : Int) k20) (hcb : 0 ≤ cd ∧ cd < 2 ^ k20) (hmn : mn = zms (k2 : Int) k20) (hmb : 0 ≤ mn ∧ mn ≤ k20) (hx20 : (k20 : Int) = 5) (H : Heap) (locs : List Loc) (ls : Array Slot) (Wd : zW g (zA (0, 398, zX) ad s.heap.size) s.heap (0, 398, (wr ++ zX)) ad M9020 F9020 H locs) (hl : lv_has ls 8 [(0, .ref (ad 0)), (1, .int (zI (k2 : Int))), (2, .int (zI cd)), (3, .int (zI mn)), (4, .ref q20.1), (5, .int (zI (k20 : Int)))]), W p l e (zrm 12 807 9642) s m args below meth c H locs (50 * k2 + 30) (600 * k2 + 480) (zMQ below g (0, 398, zX) ad (zPi (fun k M' F' => k = 1 ∧ zLw t many V U M' F')) args s 807 9642) (F0 m 143 ls []) := by
          intro k20 hk20 wr q20 cd mn M9020 F9020 hL9020 hq20 hql20 hqb20 hcd hcb hmn hmb hx20 H locs ls Wd hl
          have hn9 := (cd_n (n := (k2 : Int)) ⟨by omega, by omega⟩)
          have ek9 : k20 = 5 := by omega
          subst ek9
          have hcd9 : cd = zcd (k2 : Int) := hcd.trans hn9.2.2.1
          have hzcd : zR cd := zR_mk (by omega) (by omega)
          have hmn9 : mn % 2 = 0 := by rw [hmn]; exact hn9.2.1
          replace hl : lv_has ls 8 [(0, .ref (ad 0)), (1, .int (zI (k2 : Int))), (2, .int (zI cd)), (3, .int (zI mn)), (4, .ref q20.1)] := lv_sub hl [0, 1, 2, 3, 4] rfl
          refine z_aload_n C0 hl 0 rfl dL_codes_143 ?_
          refine z_iload_n C0 hl 2 rfl dL_codes_144 ?_
          refine z_invSH (As := [.ref (ad 0), .int (zI cd)]) (rest := []) C0 Wd hst (hq_decode l g (wr ++ zX) ad M9020 F9020 hL9020 cd hzcd ) hs_decode zk_1452 rfl hl.1 rfl (Nat.le_of_ble_eq_true rfl) (by decide) ⟨by show _ ≤ 807; omega, by show _ ≤ 9642; omega⟩ dL_codes_145 (fun k17 M17 F17 H locs hr17 hp17 Wd => ?_)
          obtain ⟨rfl, hQ17⟩ := hp17
          have hL17 := hQ17.1
          obtain ⟨he18, hr17⟩ : (qDe cd) = (k2 : Int) ∧ zR (k2 : Int) := (fun q => ⟨q, q ▸ hr17⟩) (by rw [hcd9]; exact hn9.2.2.2.1)
          refine z_top (congrArg zI he18) ?_
          clear he18
          refine z_iload_n C0 hl 1 rfl dL_codes_148 ?_
          refine z_icmp_ne C0 (tgt := 185) hr17 (zR_mk (by omega) (by omega)) dL_codes_149 (by decide) (fun h9 => (by exfalso; exact h9 rfl)) (fun c19 => ?_)
          refine z_aload_n C0 hl 0 rfl dL_codes_152 ?_
          refine z_iload_n C0 hl 2 rfl dL_codes_153 ?_
          refine z_iconst C0 dL_codes_154 ?_
          refine z_ixor C0 (v := (zcx (k2 : Int))) (by rw [hcd9]; exact hn9.2.2.2.2.1) dL_codes_155 ?_
          refine z_invSH (As := [.ref (ad 0), .int (zI (zcx (k2 : Int)))]) (rest := []) C0 Wd hst (hq_decode l g (wr ++ zX) ad M17 F17 hL17 (zcx (k2 : Int)) (zR_mk (by omega) (by omega)) ) hs_decode zk_1452 rfl hl.1 rfl (Nat.le_of_ble_eq_true rfl) (by decide) ⟨by show _ ≤ 807; omega, by show _ ≤ 9642; omega⟩ dL_codes_156 (fun k20 M20 F20 H locs hr20 hp20 Wd => ?_)
          obtain ⟨rfl, hQ20⟩ := hp20
          have hL20 := hQ20.1
          obtain ⟨he21, hr20⟩ : (qDe (zcx (k2 : Int))) = (-13) ∧ zR (-13) := (fun q => ⟨q, q ▸ hr20⟩) (hn9.2.2.2.2.2.1)
          refine z_top (congrArg zI he21) ?_
          clear he21
          refine z_bipush C0 dL_codes_159 (by decide) ?_
          refine z_icmp_ne C0 (tgt := 185) (zR_mk (by decide) (by decide)) (zR_mk (by decide) (by decide)) dL_codes_161 (by decide) (fun h => absurd h (by decide)) (fun _ => ?_)
          refine z_iload_n C0 hl 3 rfl dL_codes_164 ?_
          refine z_iconst C0 dL_codes_165 ?_
          refine z_irem C0 (v := (mn % 2)) ⟨⟨by omega, by omega⟩, ⟨by omega, by omega⟩, rfl⟩ dL_codes_166 ?_
          refine z_iconst C0 dL_codes_167 ?_
          refine z_icmp_eq C0 (tgt := 185) (zR_mk (by omega) (by omega)) (zR_mk (by decide) (by decide)) dL_codes_168 (by decide) (fun h9 => (by exfalso; omega)) (fun c23 => ?_)
          refine z_aload_n C0 hl 0 rfl dL_codes_171 ?_
          refine z_aload_n C0 hl 0 rfl dL_codes_172 ?_
          refine z_iload_n C0 hl 1 rfl dL_codes_173 ?_
          refine z_invSH (As := [.ref (ad 0), .int (zI (k2 : Int))]) (rest := [.ref (ad 0)]) C0 Wd hst (hq_writeCode l g (wr ++ zX) ad M20 F20 hL20 (k2 : Int) (zR_mk (by omega) (by omega)) ) hs_writeCode zk_1461 rfl hl.1 rfl (Nat.le_of_ble_eq_true rfl) (by decide) ⟨by show _ ≤ 807; omega, by show _ ≤ 9642; omega⟩ dL_codes_174 (fun k24 M24 F24 H locs hr24 hp24 Wd => ?_)
          obtain ⟨-, rfl, hX24, hL24⟩ := hp24.resolve_right (fun q => q.1 ⟨by omega, by omega⟩)
          refine z_aload C0 hl 4 rfl dL_codes_177 ?_
          refine z_invT (q := q20) (w2 := wr) (As := [.ref (ad 0), .int (zI 5), .ref q20.1]) (rest := []) C0 Wd (lw_spells l g zX ad M24 F24 hL24 q20 hql20 5 (zR_mk (by decide) (by decide)) (by have e5 := congrArg List.length hqb20; rw [List.length_map, zct5_len] at e5; omega) (by rw [hqb20]; exact hX24) hst) ks_L_spells hq20 zk_1331 rfl hl.1 rfl (Nat.le_of_ble_eq_true rfl) (by decide) ⟨by show _ ≤ 807; omega, by show _ ≤ 9642; omega⟩ dL_codes_179 (z_kki (fun k25 M25 F25 H locs hr25 hp25 Wd => ?_))
          obtain ⟨rfl, hL25⟩ := hp25
          refine z_if_ne C0 (tgt := 187) (zR_mk (by decide) (by decide)) dL_codes_182 (by decide) (fun _ => ?_) (fun h => absurd h (by decide))
          refine z_iinc C0 hl 1 (t := (k2 : Int)) (u := ((k2 : Int) + 1)) rfl (by omega) [(1, .int (zI ((k2 : Int) + 1))), (0, .ref (ad 0)), (2, .int (zI cd)), (3, .int (zI mn)), (4, .ref q20.1)] (by decide) rfl dL_codes_187 (fun ls hl => ?_)
          refine z_goto C0 (tgt := 2) dL_codes_190 (by decide) ?_
          refine W.widen (k := (50 * (k2 + 1) + 0)) (n := (600 * (k2 + 1) + 0)) (by omega) (by omega) ?_
          exact ih2 (k2 + 1) (by omega)  M25 F25 hL25  _ _ _ Wd (lv_sub hl [1, 0] rfl)
        have lp20 : ∀ (d20 k20 : Nat) (hk20 : (k20 : Int) + d20 = 5) (wr : va_W) (q20 : Nat × Nat × List Int32) (cd : Int) (mn : Int) (M9020 F9020 : zMem) (hL9020 : zLw t many V U M9020 F9020) (hq20 : zTR g wr q20) (hql20 : zLt q20.2.2) (hqb20 : q20.2.2.map Int32.toInt = zct5 (k2 : Int) k20) (hcd : cd = zcs (k2 : Int) k20) (hcb : 0 ≤ cd ∧ cd < 2 ^ k20) (hmn : mn = zms (k2 : Int) k20) (hmb : 0 ≤ mn ∧ mn ≤ k20) (H : Heap) (locs : List Loc) (ls : Array Slot) (Wd : zW g (zA (0, 398, zX) ad s.heap.size) s.heap (0, 398, (wr ++ zX)) ad M9020 F9020 H locs) (hl : lv_has ls 8 [(0, .ref (ad 0)), (1, .int (zI (k2 : Int))), (2, .int (zI cd)), (3, .int (zI mn)), (4, .ref q20.1), (5, .int (zI (k20 : Int)))]), W p l e (zrm 12 807 9642) s m args below meth c H locs (6 * k20 + 50 * k2 + 0) (96 * k20 + 600 * k2 + 0) (zMQ below g (0, 398, zX) ad (zPi (fun k M' F' => k = 1 ∧ zLw t many V U M' F')) args s 807 9642) (F0 m 20 ls []) := by
          intro d20
          induction d20 with
          | zero =>
            intro k20 hk20 wr q20 cd mn M9020 F9020 hL9020 hq20 hql20 hqb20 hcd hcb hmn hmb H locs ls Wd hl
            have hb01 := zbt_01 (k2 : Int) (k20 : Int)
            refine z_iload C0 hl 5 rfl dL_codes_20 ?_
            refine z_iconst C0 dL_codes_22 ?_
            refine z_icmp_ge C0 (tgt := 143) (zR_mk (by omega) (by omega)) (zR_mk (by decide) (by decide)) dL_codes_23 (by decide) (fun c27 => ?_) (fun c27 => ?_)
            · skip
              refine W.widen (k := (50 * k2 + 30)) (n := (600 * k2 + 480)) (by omega) (by omega) ?_
              exact aft20 k20 (by omega) wr q20 cd mn M9020 F9020 hL9020 (by first | assumption | omega) (by first | assumption | omega) (by first | assumption | omega) (by first | assumption | omega) (by first | assumption | omega) (by first | assumption | omega) (by first | assumption | omega) (by first | assumption | omega) _ _ _ Wd (lv_sub hl [0, 1, 2, 3, 4, 5] rfl)
            · skip
              exfalso; omega
          | succ d20 ih20 =>
            intro k20 hk20 wr q20 cd mn M9020 F9020 hL9020 hq20 hql20 hqb20 hcd hcb hmn hmb H locs ls Wd hl
            have hb01 := zbt_01 (k2 : Int) (k20 : Int)
            refine z_iload C0 hl 5 rfl dL_codes_20 ?_
            refine z_iconst C0 dL_codes_22 ?_
            refine z_icmp_ge C0 (tgt := 143) (zR_mk (by omega) (by omega)) (zR_mk (by decide) (by decide)) dL_codes_23 (by decide) (fun c28 => ?_) (fun c28 => ?_)
            · skip
              exfalso; omega
            · skip
              refine z_aload_n C0 hl 0 rfl dL_codes_26 ?_
              refine z_iload_n C0 hl 1 rfl dL_codes_27 ?_
              refine z_iload C0 hl 5 rfl dL_codes_28 ?_
              refine z_invSH (As := [.ref (ad 0), .int (zI (k2 : Int)), .int (zI (k20 : Int))]) (rest := []) C0 Wd hst (hq_isThump l g (wr ++ zX) ad M9020 F9020 hL9020 (k2 : Int) (zR_mk (by omega) (by omega)) (k20 : Int) (zR_mk (by omega) (by omega)) ) hs_isThump zk_1436 rfl hl.1 rfl (Nat.le_of_ble_eq_true rfl) (by decide) ⟨by show _ ≤ 807; omega, by show _ ≤ 9642; omega⟩ dL_codes_30 (fun k29 M29 F29 H locs hr29 hp29 Wd => ?_)
              obtain ⟨rfl, hQ29⟩ := hp29
              have hL29 := hQ29.1
              obtain ⟨he30, hr29⟩ : (qTh (k2 : Int) (k20 : Int)) = (zbt (k2 : Int) (k20 : Int)) ∧ zR (zbt (k2 : Int) (k20 : Int)) := (fun q => ⟨q, q ▸ hr29⟩) (qTh_in ⟨by omega, by omega⟩ ⟨by omega, by omega⟩)
              refine z_top (congrArg zI he30) ?_
              clear he30
              refine z_istore C0 hl [(6, .int (zI (zbt (k2 : Int) (k20 : Int)))), (0, .ref (ad 0)), (1, .int (zI (k2 : Int))), (2, .int (zI cd)), (3, .int (zI mn)), (4, .ref q20.1), (5, .int (zI (k20 : Int)))] (by decide) rfl dL_codes_33 (fun ls hl => ?_)
              have jn71 : ∀ (M8071 F8071 : zMem) (hL8071 : zLw t many V U M8071 F8071) (H : Heap) (locs : List Loc) (ls : Array Slot) (Wd : zW g (zA (0, 398, zX) ad s.heap.size) s.heap (0, 398, (wr ++ zX)) ad M8071 F8071 H locs) (hl : lv_has ls 8 [(0, .ref (ad 0)), (1, .int (zI (k2 : Int))), (2, .int (zI cd)), (3, .int (zI mn)), (4, .ref q20.1), (5, .int (zI (k20 : Int))), (6, .int (zI (zbt (k2 : Int) (k20 : Int))))]), W p l e (zrm 12 807 9642) s m args below meth c H locs (6 * k20 + 50 * k2 + 2) (96 * k20 + 600 * k2 + 12) (zMQ below g (0, 398, zX) ad (zPi (fun k M' F' => k = 1 ∧ zLw t many V U M' F')) args s 807 9642) (F0 m 71 ls [.int (zI (zbt (k2 : Int) (k20 : Int)))]) := by
                intro M8071 F8071 hL8071 H locs ls Wd hl
                refine z_istore C0 hl [(7, .int (zI (zbt (k2 : Int) (k20 : Int)))), (0, .ref (ad 0)), (1, .int (zI (k2 : Int))), (2, .int (zI cd)), (3, .int (zI mn)), (4, .ref q20.1), (5, .int (zI (k20 : Int))), (6, .int (zI (zbt (k2 : Int) (k20 : Int))))] (by decide) rfl dL_codes_71 (fun ls hl => ?_)
                refine z_iload_n C0 hl 4 rfl dL_codes_73 ?_
                refine z_iload C0 hl 7 rfl dL_codes_74 ?_
                refine z_iadd C0 dL_codes_76 ?_
                refine z_istore_n C0 hl [(3, .int (zI (mn + (zbt (k2 : Int) (k20 : Int))))), (7, .int (zI (zbt (k2 : Int) (k20 : Int)))), (0, .ref (ad 0)), (1, .int (zI (k2 : Int))), (2, .int (zI cd)), (4, .ref q20.1), (5, .int (zI (k20 : Int))), (6, .int (zI (zbt (k2 : Int) (k20 : Int))))] (by decide) rfl dL_codes_77 (fun ls hl => ?_)
                refine z_iconst C0 dL_codes_78 ?_
                refine z_iload_n C0 hl 4 rfl dL_codes_79 ?_
                refine z_imul C0 dL_codes_80 ?_
                refine z_iload C0 hl 7 rfl dL_codes_81 ?_
                refine z_iadd C0 dL_codes_83 ?_
                refine z_istore_n C0 hl [(2, .int (zI ((2 * cd) + (zbt (k2 : Int) (k20 : Int))))), (3, .int (zI (mn + (zbt (k2 : Int) (k20 : Int))))), (7, .int (zI (zbt (k2 : Int) (k20 : Int)))), (0, .ref (ad 0)), (1, .int (zI (k2 : Int))), (4, .ref q20.1), (5, .int (zI (k20 : Int))), (6, .int (zI (zbt (k2 : Int) (k20 : Int))))] (by decide) rfl dL_codes_84 (fun ls hl => ?_)
                refine lb_new (rest := []) C0 Wd hl.1 (Nat.le_of_ble_eq_true rfl) ⟨by decide, by decide⟩ ⟨by show _ ≤ 807; omega, by show _ ≤ 9642; omega⟩ dL_codes_85 dL_codes_88 dL_codes_89 (fun ab31 Mb31 Fb31 H locs hN31 hT31 Wd => ?_)
                refine z_aload C0 hl 5 rfl dL_codes_92 ?_
                refine lb_S (q := q20) (rest := []) C0 Wd hN31 hT31 (hq20.mono (fun x hx => List.mem_append_right _ (List.mem_append_left _ hx))) hql20 (by have := hql20; have e5 := congrArg List.length hqb20; rw [List.length_map, zct5_len] at e5; rw [e5]; show 0 + _ ≤ 16; omega) zk_1293 hl.1 (Nat.le_of_ble_eq_true rfl) ⟨by decide, by decide⟩ ⟨by show _ ≤ 807; omega, by show _ ≤ 9642; omega⟩ dL_codes_94 (fun Mb32 Fb32 H locs hN32 hT32 Wd => ?_)
                refine z_iload C0 hl 7 rfl dL_codes_97 ?_
                refine z_iconst C0 dL_codes_99 ?_
                refine z_icmp_ne C0 (tgt := 109) hr29 (zR_mk (by decide) (by decide)) dL_codes_100 (by decide) (fun c33 => ?_) (fun c33 => ?_)
                · skip
                  refine z_ldcrw (tx := ".") (a := g.2.2.2 46) C0 (zc_r C0 (q := ("DrumWarrenLaw", 341, ".", 46)) (by decide +kernel)) dL_codes_109 ?_
                  refine lb_S (q := (g.2.2.2 46, g.2.2.2 86, [46])) (rest := []) C0 Wd hN32 hT32 (zc_tx (c := (46, 86, [46])) (by decide +kernel)) (show zLt ([46] : List Int32) from ⟨by decide, by decide⟩) (by simp only [List.length_append, List.nil_append]; rw [hqb20, zct5_len]; show _ + 1 ≤ 16; omega) zk_1293 hl.1 (Nat.le_of_ble_eq_true rfl) ⟨by decide, by decide⟩ ⟨by show _ ≤ 807; omega, by show _ ≤ 9642; omega⟩ dL_codes_112 (fun Mb34 Fb34 H locs hN34 hT34 Wd => ?_)
                  replace hT34 : zTx Mb34 ((zct5 (k2 : Int) (k20 + 1))) := by
                                      have e9 : [] ++ (q20.2.2 : List Int32).map Int32.toInt ++ ([46] : List Int32).map Int32.toInt = (zct5 (k2 : Int) (k20 + 1)) := (by rw [hqb20]; show zct5 (k2 : Int) k20 ++ [46] = zct5 (k2 : Int) k20 ++ [if zbt (k2 : Int) (k20 : Int) = 1 then 120 else 46]; rw [if_neg (by omega)])
                                      rw [e9] at hT34
                                      exact hT34
                  refine lb_T (rest := []) C0 Wd hN34 hT34 (by rw [zct5_len]; omega) (zct5_b (k2 : Int) (k20 + 1)) zk_1330 hl.1 (Nat.le_of_ble_eq_true rfl) ⟨by decide, by decide⟩ ⟨by show _ ≤ 807; omega, by show _ ≤ 9642; omega⟩ dL_codes_115 (fun q35 w35 H locs hqe35 hqr35 Wd => ?_)
                  have hqb35 : q35.2.2.map Int32.toInt = (zct5 (k2 : Int) (k20 + 1)) := by rw [hqe35]; exact zI_map (zct5_b (k2 : Int) (k20 + 1))
                  have hql35 : zLt q35.2.2 := by rw [hqe35]; exact zLt_map (zct5_b (k2 : Int) (k20 + 1)) (by have h7 : ((zct5 (k2 : Int) (k20 + 1))).length < 16 := (by rw [zct5_len]; omega); omega)
                  refine z_astore C0 hl [(4, .ref q35.1), (2, .int (zI ((2 * cd) + (zbt (k2 : Int) (k20 : Int))))), (3, .int (zI (mn + (zbt (k2 : Int) (k20 : Int))))), (7, .int (zI (zbt (k2 : Int) (k20 : Int)))), (0, .ref (ad 0)), (1, .int (zI (k2 : Int))), (5, .int (zI (k20 : Int))), (6, .int (zI (zbt (k2 : Int) (k20 : Int))))] (by decide) rfl dL_codes_118 (fun ls hl => ?_)
                  refine z_iload C0 hl 7 rfl dL_codes_120 ?_
                  have jn132 : ∀ (M8132 F8132 : zMem) (hL8132 : zLw t many V U M8132 F8132) (H : Heap) (locs : List Loc) (ls : Array Slot) (Wd : zW g (zA (0, 398, zX) ad s.heap.size) s.heap (0, 398, (w35 ++ (wr ++ zX))) ad M8132 F8132 H locs) (hl : lv_has ls 8 [(0, .ref (ad 0)), (1, .int (zI (k2 : Int))), (2, .int (zI ((2 * cd) + (zbt (k2 : Int) (k20 : Int))))), (3, .int (zI (mn + (zbt (k2 : Int) (k20 : Int))))), (4, .ref q35.1), (5, .int (zI (k20 : Int))), (6, .int (zI (zbt (k2 : Int) (k20 : Int)))), (7, .int (zI (zbt (k2 : Int) (k20 : Int))))]), W p l e (zrm 12 807 9642) s m args below meth c H locs (6 * k20 + 50 * k2 + 6) (96 * k20 + 600 * k2 + 96) (zMQ below g (0, 398, zX) ad (zPi (fun k M' F' => k = 1 ∧ zLw t many V U M' F')) args s 807 9642) (F0 m 132 ls [.int (zI (zbt (k2 : Int) (k20 : Int))), .int (zI (zbt (k2 : Int) (k20 : Int)))]) := by
                    intro M8132 F8132 hL8132 H locs ls Wd hl
                    refine z_icmp_eq C0 (tgt := 137) hr29 (zR_mk (by omega) (by omega)) dL_codes_132 (by decide) (fun c36 => ?_) (fun h9 => (by exfalso; exact h9 rfl))
                    refine z_iinc C0 hl 5 (t := (k20 : Int)) (u := ((k20 : Int) + 1)) rfl (by omega) [(5, .int (zI ((k20 : Int) + 1))), (0, .ref (ad 0)), (1, .int (zI (k2 : Int))), (2, .int (zI ((2 * cd) + (zbt (k2 : Int) (k20 : Int))))), (3, .int (zI (mn + (zbt (k2 : Int) (k20 : Int))))), (4, .ref q35.1), (6, .int (zI (zbt (k2 : Int) (k20 : Int)))), (7, .int (zI (zbt (k2 : Int) (k20 : Int))))] (by decide) rfl dL_codes_137 (fun ls hl => ?_)
                    refine z_goto C0 (tgt := 20) dL_codes_140 (by decide) ?_
                    replace Wd := zW_sub (X := (w35 ++ zX)) Wd ((List.Sublist.refl w35).append ((List.Sublist.refl _).trans (List.sublist_append_right wr _)))
                    refine W.widen (k := (6 * (k20 + 1) + 50 * k2 + 0)) (n := (96 * (k20 + 1) + 600 * k2 + 0)) (by omega) (by omega) ?_
                    exact ih20 (k20 + 1) (by omega) w35 q35 ((2 * cd) + (zbt (k2 : Int) (k20 : Int))) (mn + (zbt (k2 : Int) (k20 : Int))) M8132 F8132 hL8132 hqr35 hql35 hqb35 (by rw [hcd]; rfl) (by rw [Int.pow_succ]; omega) (by rw [hmn]; rfl) (by omega) _ _ _ Wd (lv_sub hl [1, 2, 3, 4, 5, 0] rfl)
                  refine z_iload C0 hl 3 rfl dL_codes_122 ?_
                  refine z_if_eq C0 (tgt := 131) (zR_mk (by omega) (by omega)) dL_codes_124 (by decide) (fun c37 => ?_) (fun c37 => ?_)
                  · skip
                    refine z_iconst C0 dL_codes_131 ?_
                    refine z_top (congrArg zI (show 0 = (zbt (k2 : Int) (k20 : Int)) from (by omega))) ?_
                    refine W.widen (k := (6 * k20 + 50 * k2 + 6)) (n := (96 * k20 + 600 * k2 + 96)) (by omega) (by omega) ?_
                    exact jn132  M8071 F8071 hL8071  _ _ _ Wd (lv_sub hl [4, 5, 1, 2, 0, 6, 7, 3] rfl)
                  · skip
                    refine z_iconst C0 dL_codes_127 ?_
                    refine z_goto C0 (tgt := 132) dL_codes_128 (by decide) ?_
                    refine z_top (congrArg zI (show 1 = (zbt (k2 : Int) (k20 : Int)) from (by omega))) ?_
                    refine W.widen (k := (6 * k20 + 50 * k2 + 6)) (n := (96 * k20 + 600 * k2 + 96)) (by omega) (by omega) ?_
                    exact jn132  M8071 F8071 hL8071  _ _ _ Wd (lv_sub hl [4, 5, 1, 2, 0, 6, 7, 3] rfl)
                · skip
                  refine z_ldcrw (tx := "x") (a := g.2.2.2 45) C0 (zc_r C0 (q := ("DrumWarrenLaw", 339, "x", 45)) (by decide +kernel)) dL_codes_103 ?_
                  refine z_goto C0 (tgt := 112) dL_codes_106 (by decide) ?_
                  refine lb_S (q := (g.2.2.2 45, g.2.2.2 85, [120])) (rest := []) C0 Wd hN32 hT32 (zc_tx (c := (45, 85, [120])) (by decide +kernel)) (show zLt ([120] : List Int32) from ⟨by decide, by decide⟩) (by simp only [List.length_append, List.nil_append]; rw [hqb20, zct5_len]; show _ + 1 ≤ 16; omega) zk_1293 hl.1 (Nat.le_of_ble_eq_true rfl) ⟨by decide, by decide⟩ ⟨by show _ ≤ 807; omega, by show _ ≤ 9642; omega⟩ dL_codes_112 (fun Mb38 Fb38 H locs hN38 hT38 Wd => ?_)
                  replace hT38 : zTx Mb38 ((zct5 (k2 : Int) (k20 + 1))) := by
                                      have e9 : [] ++ (q20.2.2 : List Int32).map Int32.toInt ++ ([120] : List Int32).map Int32.toInt = (zct5 (k2 : Int) (k20 + 1)) := (by rw [hqb20]; show zct5 (k2 : Int) k20 ++ [120] = zct5 (k2 : Int) k20 ++ [if zbt (k2 : Int) (k20 : Int) = 1 then 120 else 46]; rw [if_pos (by omega)])
                                      rw [e9] at hT38
                                      exact hT38
                  refine lb_T (rest := []) C0 Wd hN38 hT38 (by rw [zct5_len]; omega) (zct5_b (k2 : Int) (k20 + 1)) zk_1330 hl.1 (Nat.le_of_ble_eq_true rfl) ⟨by decide, by decide⟩ ⟨by show _ ≤ 807; omega, by show _ ≤ 9642; omega⟩ dL_codes_115 (fun q39 w39 H locs hqe39 hqr39 Wd => ?_)
                  have hqb39 : q39.2.2.map Int32.toInt = (zct5 (k2 : Int) (k20 + 1)) := by rw [hqe39]; exact zI_map (zct5_b (k2 : Int) (k20 + 1))
                  have hql39 : zLt q39.2.2 := by rw [hqe39]; exact zLt_map (zct5_b (k2 : Int) (k20 + 1)) (by have h7 : ((zct5 (k2 : Int) (k20 + 1))).length < 16 := (by rw [zct5_len]; omega); omega)
                  refine z_astore C0 hl [(4, .ref q39.1), (2, .int (zI ((2 * cd) + (zbt (k2 : Int) (k20 : Int))))), (3, .int (zI (mn + (zbt (k2 : Int) (k20 : Int))))), (7, .int (zI (zbt (k2 : Int) (k20 : Int)))), (0, .ref (ad 0)), (1, .int (zI (k2 : Int))), (5, .int (zI (k20 : Int))), (6, .int (zI (zbt (k2 : Int) (k20 : Int))))] (by decide) rfl dL_codes_118 (fun ls hl => ?_)
                  refine z_iload C0 hl 7 rfl dL_codes_120 ?_
                  have jn132 : ∀ (M8132 F8132 : zMem) (hL8132 : zLw t many V U M8132 F8132) (H : Heap) (locs : List Loc) (ls : Array Slot) (Wd : zW g (zA (0, 398, zX) ad s.heap.size) s.heap (0, 398, (w39 ++ (wr ++ zX))) ad M8132 F8132 H locs) (hl : lv_has ls 8 [(0, .ref (ad 0)), (1, .int (zI (k2 : Int))), (2, .int (zI ((2 * cd) + (zbt (k2 : Int) (k20 : Int))))), (3, .int (zI (mn + (zbt (k2 : Int) (k20 : Int))))), (4, .ref q39.1), (5, .int (zI (k20 : Int))), (6, .int (zI (zbt (k2 : Int) (k20 : Int)))), (7, .int (zI (zbt (k2 : Int) (k20 : Int))))]), W p l e (zrm 12 807 9642) s m args below meth c H locs (6 * k20 + 50 * k2 + 6) (96 * k20 + 600 * k2 + 96) (zMQ below g (0, 398, zX) ad (zPi (fun k M' F' => k = 1 ∧ zLw t many V U M' F')) args s 807 9642) (F0 m 132 ls [.int (zI (zbt (k2 : Int) (k20 : Int))), .int (zI (zbt (k2 : Int) (k20 : Int)))]) := by
                    intro M8132 F8132 hL8132 H locs ls Wd hl
                    refine z_icmp_eq C0 (tgt := 137) hr29 (zR_mk (by omega) (by omega)) dL_codes_132 (by decide) (fun c40 => ?_) (fun h9 => (by exfalso; exact h9 rfl))
                    refine z_iinc C0 hl 5 (t := (k20 : Int)) (u := ((k20 : Int) + 1)) rfl (by omega) [(5, .int (zI ((k20 : Int) + 1))), (0, .ref (ad 0)), (1, .int (zI (k2 : Int))), (2, .int (zI ((2 * cd) + (zbt (k2 : Int) (k20 : Int))))), (3, .int (zI (mn + (zbt (k2 : Int) (k20 : Int))))), (4, .ref q39.1), (6, .int (zI (zbt (k2 : Int) (k20 : Int)))), (7, .int (zI (zbt (k2 : Int) (k20 : Int))))] (by decide) rfl dL_codes_137 (fun ls hl => ?_)
                    refine z_goto C0 (tgt := 20) dL_codes_140 (by decide) ?_
                    replace Wd := zW_sub (X := (w39 ++ zX)) Wd ((List.Sublist.refl w39).append ((List.Sublist.refl _).trans (List.sublist_append_right wr _)))
                    refine W.widen (k := (6 * (k20 + 1) + 50 * k2 + 0)) (n := (96 * (k20 + 1) + 600 * k2 + 0)) (by omega) (by omega) ?_
                    exact ih20 (k20 + 1) (by omega) w39 q39 ((2 * cd) + (zbt (k2 : Int) (k20 : Int))) (mn + (zbt (k2 : Int) (k20 : Int))) M8132 F8132 hL8132 hqr39 hql39 hqb39 (by rw [hcd]; rfl) (by rw [Int.pow_succ]; omega) (by rw [hmn]; rfl) (by omega) _ _ _ Wd (lv_sub hl [1, 2, 3, 4, 5, 0] rfl)
                  refine z_iload C0 hl 3 rfl dL_codes_122 ?_
                  refine z_if_eq C0 (tgt := 131) (zR_mk (by omega) (by omega)) dL_codes_124 (by decide) (fun c41 => ?_) (fun c41 => ?_)
                  · skip
                    refine z_iconst C0 dL_codes_131 ?_
                    refine z_top (congrArg zI (show 0 = (zbt (k2 : Int) (k20 : Int)) from (by omega))) ?_
                    refine W.widen (k := (6 * k20 + 50 * k2 + 6)) (n := (96 * k20 + 600 * k2 + 96)) (by omega) (by omega) ?_
                    exact jn132  M8071 F8071 hL8071  _ _ _ Wd (lv_sub hl [4, 5, 1, 2, 0, 6, 7, 3] rfl)
                  · skip
                    refine z_iconst C0 dL_codes_127 ?_
                    refine z_goto C0 (tgt := 132) dL_codes_128 (by decide) ?_
                    refine z_top (congrArg zI (show 1 = (zbt (k2 : Int) (k20 : Int)) from (by omega))) ?_
                    refine W.widen (k := (6 * k20 + 50 * k2 + 6)) (n := (96 * k20 + 600 * k2 + 96)) (by omega) (by omega) ?_
                    exact jn132  M8071 F8071 hL8071  _ _ _ Wd (lv_sub hl [4, 5, 1, 2, 0, 6, 7, 3] rfl)
              refine z_iload C0 hl 6 rfl dL_codes_35 ?_
              refine z_iconst C0 dL_codes_37 ?_
              refine z_icmp_ge C0 (tgt := 59) (zR_mk (by omega) (by omega)) (zR_mk (by decide) (by decide)) dL_codes_38 (by decide) (fun c42 => ?_) (fun c42 => ?_)
              · skip
                have hm9 : mn % 2 = zbt (k2 : Int) (k20 : Int) := by
                  have e4 : k20 = 4 := by omega
                  subst e4
                  rw [hmn]
                  exact (cd_n (n := (k2 : Int)) ⟨by omega, by omega⟩).1
                refine z_iload_n C0 hl 4 rfl dL_codes_59 ?_
                refine z_iconst C0 dL_codes_60 ?_
                refine z_irem C0 (v := (mn % 2)) ⟨⟨by omega, by omega⟩, ⟨by omega, by omega⟩, rfl⟩ dL_codes_61 ?_
                refine z_iconst C0 dL_codes_62 ?_
                refine z_icmp_ne C0 (tgt := 70) (zR_mk (by omega) (by omega)) (zR_mk (by decide) (by decide)) dL_codes_63 (by decide) (fun c43 => ?_) (fun c43 => ?_)
                · skip
                  refine z_iconst C0 dL_codes_70 ?_
                  refine z_top (congrArg zI (show 0 = (zbt (k2 : Int) (k20 : Int)) from (by omega))) ?_
                  refine W.widen (k := (6 * k20 + 50 * k2 + 2)) (n := (96 * k20 + 600 * k2 + 12)) (by omega) (by omega) ?_
                  exact jn71  M29 F29 hL29  _ _ _ Wd (lv_sub hl [1, 2, 3, 4, 5, 6, 0] rfl)
                · skip
                  refine z_iconst C0 dL_codes_66 ?_
                  refine z_goto C0 (tgt := 71) dL_codes_67 (by decide) ?_
                  refine z_top (congrArg zI (show 1 = (zbt (k2 : Int) (k20 : Int)) from (by omega))) ?_
                  refine W.widen (k := (6 * k20 + 50 * k2 + 2)) (n := (96 * k20 + 600 * k2 + 12)) (by omega) (by omega) ?_
                  exact jn71  M29 F29 hL29  _ _ _ Wd (lv_sub hl [1, 2, 3, 4, 5, 6, 0] rfl)
              · skip
                obtain ⟨sh9, hsh9, wn9, hwn9, hwb9, hwi9⟩ := cd_bit (n := (k2 : Int)) (b := (k20 : Int)) ⟨by omega, by omega⟩ ⟨by omega, by omega⟩
                refine z_iload_n C0 hl 2 rfl dL_codes_41 ?_
                refine z_bipush C0 dL_codes_42 (by decide) ?_
                refine z_iload C0 hl 6 rfl dL_codes_44 ?_
                refine z_ishr C0 (v := sh9) hsh9 dL_codes_46 ?_
                refine z_iand C0 (v := wn9) hwn9 dL_codes_47 ?_
                refine z_if_eq C0 (tgt := 55) (zR_mk (by omega) (by omega)) dL_codes_48 (by decide) (fun c44 => ?_) (fun c44 => ?_)
                · skip
                  refine z_iconst C0 dL_codes_55 ?_
                  refine z_goto C0 (tgt := 71) dL_codes_56 (by decide) ?_
                  refine z_top (congrArg zI (show 0 = (zbt (k2 : Int) (k20 : Int)) from (by omega))) ?_
                  refine W.widen (k := (6 * k20 + 50 * k2 + 2)) (n := (96 * k20 + 600 * k2 + 12)) (by omega) (by omega) ?_
                  exact jn71  M29 F29 hL29  _ _ _ Wd (lv_sub hl [1, 2, 3, 4, 5, 6, 0] rfl)
                · skip
                  refine z_iconst C0 dL_codes_51 ?_
                  refine z_goto C0 (tgt := 71) dL_codes_52 (by decide) ?_
                  refine z_top (congrArg zI (show 1 = (zbt (k2 : Int) (k20 : Int)) from (by omega))) ?_
                  refine W.widen (k := (6 * k20 + 50 * k2 + 2)) (n := (96 * k20 + 600 * k2 + 12)) (by omega) (by omega) ?_
                  exact jn71  M29 F29 hL29  _ _ _ Wd (lv_sub hl [1, 2, 3, 4, 5, 6, 0] rfl)
        refine W.widen (k := (6 * 0 + 50 * k2 + 0)) (n := (96 * 0 + 600 * k2 + 0)) (by omega) (by omega) ?_
        exact lp20 5 0 (by omega) ([]) (g.2.2.2 44, g.2.2.2 84, []) 0 0 M9002 F9002 hL9002 (zc_tx (c := (44, 84, [])) (by decide +kernel)) ⟨by show (0 : Nat) ≤ 60; decide, fun b hb => absurd hb (by simp)⟩ rfl rfl (by decide) rfl (by decide) _ _ _ Wd (lv_sub hl [4, 5, 3, 2, 1, 0] rfl)
  refine W.widen (k := (50 * 0 + 0)) (n := (600 * 0 + 0)) (by omega) (by omega) ?_
  exact lp2 16 0 (by omega)  M F hL  _ _ _ Wd (lv_sub hl [1, 0] rfl)
