/-! the law's own rows -/
def zKH (y : MethodName) (cc : ByteArray) (nL : Nat) (hh : List (Nat × Nat × Nat × Nat)) (n : Nat) : Prop :=
  Cond.codeWith y cc nL (some .int) hh ∈ zT ∧ Cond.static y ∈ zT ∧ Cond.initialized y.cls ∈ zT ∧ y.cls ≠ "java/lang/invoke/MethodHandle" ∧ y.cls ≠ "java/lang/invoke/VarHandle" ∧ (parseMethodDescriptor y.desc).map (fun d => d.parameters.length) = some n
theorem zGoodH {y : MethodName} {cc : ByteArray} {nL : Nat} {ret : Option FieldType} {hh : List (Nat × Nat × Nat × Nat)} (h : Cond.codeWith y cc nL ret hh ∈ zT) : GoodIn zT (Cond.codeWith y cc nL ret hh :: zT) := by
  intro w hw
  rcases List.mem_cons.mp hw with rfl | hw
  · exact ⟨h, good_of_word (List.mem_filter.mp h).2⟩
  · exact ⟨hw, good_of_word (List.mem_filter.mp hw).2⟩
section LAW3

variable {g : zG} {A : Nat → Prop} {p : Program} {l : Launch} {e : Env} {R : Room} {s : State} {m : MethodId} {args : Array Value} {below : List Frame} {meth : Method} {c : Code} {H : Heap} {locs : List Loc} {cells slots : Nat} {Q : State → Prop}
variable {cc : ByteArray} {nL : Nat} {own : String} {pc : Nat} {N : zNs} {ls : Array Slot} {rest st0 : List Value} {ad : Int → Nat} {M F : zMem} {zX : va_W}
variable {mc ms : Nat} {a : Array Value}

theorem z_invSH {post : Int → zMem → zMem → Prop} {y : MethodName} {cc' : ByteArray} {nL' : Nat} {hh : List (Nat × Nat × Nat × Nat)} {d n idx : Nat} {As : List Value} (C0 : zC g A p s m args c cc nL own) (Wd : zW g A s.heap (0, 398, zX) ad M F H locs) (hst9 : l.stackTraces = false) (hM : hMt l y cc' nL' hh d mc ms g zX ad As M F (zPi post)) (kv : zKH y cc' nL' hh n) (hlink : Cond.methodLink own idx y ∈ zT) (hn : As.length = n) (hsz : ls.size = nL) (hst0 : st0 = As.reverse ++ rest) (hst : (rest.map fun v => v.category).sum ≤ 8) (hR : d + 1 ≤ R.frames ∧ 8 + (nL' + 11) + 60 * d ≤ R.locals) (hf : cells + mc ≤ R.cells ∧ slots + ms ≤ R.slots) (hdg : decode cc pc = .ok (.invokestatic idx, 3))
    (kk : ∀ (k : Int) (M' F' : zMem) (H1 : Heap) (locs1 : List Loc), zR k → post k M' F' → zW g A s.heap (0, 398, zX) ad M' F' H1 locs1 → W p l e R s m args below meth c H1 locs1 (cells + mc) (slots + ms) Q (F0 m (pc + 3) ls (.int (zI k) :: rest))) : W p l e R s m args below meth c H locs cells slots Q (F0 m pc ls st0) := by
  obtain ⟨k1, k2, k3, k4, k5, k6⟩ := kv
  refine z_call (vx_runSW (As := As) (rest := rest) (n := n) C0.1 (hM hst9 H.size) ⟨⟨rfl, rfl, hR.1, hR.2, pay_in C0.1.2.2.2.2 (zGoodH k1), List.mem_cons_self⟩, C0.1.2.2.2.2 _ k1, C0.1.2.2.2.2 _ k3, ⟨k4, k5⟩, fun sig h => ?_, C0.1.2.2.2.2 _ hlink, C0.1.2.2.2.2 _ k2⟩ ⟨zPre_blind, zPre_of C0 Wd _⟩ rfl hn hsz hst0 (lv_room hst) hdg hf) C0 Wd (fun v M' F' H1 locs1 hp hw => ?_)
  · rw [h] at k6
    exact (Option.some.inj k6).symm
  · obtain ⟨r, rfl, hr, hp⟩ := hp
    exact kk r M' F' H1 locs1 hr hp hw
/-- a number of the script -/
def sx (xs : Nat → Int32) (j : Int) : Int := (xs j.toNat).toInt
theorem sx_R (xs : Nat → Int32) (j : Int) : zR (sx xs j) := zR_of _
theorem z_sld {b L : Nat} {xs : Nat → Int32} {j : Int} (C0 : zC g A p s m args c cc nL own) (Wd : zW g A s.heap N ad M F H locs) (hX : va_X b L xs s s.heap) (hbl : b < s.heap.size) (hbA : ¬ A b) (h0 : 0 ≤ j) (h1 : j < (L : Int)) (hL : L ≤ 2048) (hdg : decode cc pc = .ok (.iaload, 1)) (kk : W p l e R s m args below meth c H locs cells slots Q (F0 m (pc + 1) ls (.int (zI (sx xs j)) :: rest))) : W p l e R s m args below meth c H locs cells slots Q (F0 m pc ls (.int (zI j) :: .ref b :: rest)) := by
  refine va_sld C0.1.1 C0.1.2.1 hX hbl hbA Wd.1.2.2 (zI_in h0 h1 (by omega)) hdg ?_
  rw [zI_clamp h0 (by omega)]
  unfold sx at kk
  rw [zI_of] at kk
  exact kk
theorem z_fstore {x : UInt32} {lv : List (Nat × Value)} (C0 : zC g A p s m args c cc nL own) (hl : lv_has ls nL lv) {i : Nat} (lv' : List (Nat × Value)) (hn : i < nL) (h : (i, Value.float x) :: zdrop i lv = lv') (hdg : decode cc pc = .ok (.fstore i, 2)) (kk : ∀ ls', lv_has ls' nL lv' → W p l e R s m args below meth c H locs cells slots Q (F0 m (pc + 2) ls' rest)) : W p l e R s m args below meth c H locs cells slots Q (F0 m pc ls (.float x :: rest)) := lv_fstore C0.1.1 C0.1.2.1 hdg hl hn h kk
theorem z_dstore {x : UInt64} {lv : List (Nat × Value)} (C0 : zC g A p s m args c cc nL own) (hl : lv_has ls nL lv) {i : Nat} (lv' : List (Nat × Value)) (hn : i + 1 < nL) (h : (i, Value.double x) :: lv.filter (fun q => !(q.1 == i) && (!(q.1 == i + 1) && !(q.1 + 1 == i && q.2.category == 2))) = lv') (hdg : decode cc pc = .ok (.dstore i, 2)) (kk : ∀ ls', lv_has ls' nL lv' → W p l e R s m args below meth c H locs cells slots Q (F0 m (pc + 2) ls' rest)) : W p l e R s m args below meth c H locs cells slots Q (F0 m pc ls (.double x :: rest)) := lv_dstore C0.1.1 C0.1.2.1 hdg hl hn h kk
theorem z_dload {x : UInt64} {lv : List (Nat × Value)} (C0 : zC g A p s m args c cc nL own) (hl : lv_has ls nL lv) (q : Nat) {i : Nat} (hq : lv[q]? = some (i, .double x)) (hdg : decode cc pc = .ok (.dload i, 2)) (kk : W p l e R s m args below meth c H locs cells slots Q (F0 m (pc + 2) ls (.double x :: rest))) : W p l e R s m args below meth c H locs cells slots Q (F0 m pc ls rest) := lv_dload C0.1.1 C0.1.2.1 hdg (lv_at hl q hq) kk
end LAW3
/-- a char of a number -/
theorem z_ch {x : Int} (h : zR x) : ((zI x).toUInt32 % 65536).toInt32 = zI (x % 65536) := by
  apply Int32.toInt_inj.mp
  rw [zI_toInt (by omega) (by omega)]
  have e1 : (zI x).toUInt32.toNat = (x % 4294967296).toNat := by
    unfold zI
    rw [← UInt32.toNat_toBitVec]
    show (Int32.ofInt x).toBitVec.toNat = _
    show (BitVec.ofInt 32 x).toNat = _
    rw [BitVec.toNat_ofInt]
    rfl
  have e2 : ((zI x).toUInt32 % 65536).toNat = (x % 65536).toNat := by
    rw [UInt32.toNat_mod, e1]
    show (x % 4294967296).toNat % 65536 = _
    omega
  have e3 : ((zI x).toUInt32 % 65536).toInt32.toInt = (((zI x).toUInt32 % 65536).toNat : Int).bmod (2 ^ 32) := by
    rw [← Int32.toInt_toBitVec, UInt32.toBitVec_toInt32, BitVec.toInt_eq_toNat_bmod, UInt32.toNat_toBitVec]
  rw [e3, e2, Int.bmod_def]
  split <;> omega
theorem z_63 {x : Int} (h : zR x) : zI x &&& zI 63 = zI (x % 64) := by
  apply Int32.toInt_inj.mp
  rw [zI_toInt (by omega) (by omega)]
  have e2 : ((zI x &&& zI 63).toBitVec).toNat = (x % 64).toNat := by
    rw [Int32.toBitVec_and, BitVec.toNat_and]
    have e1 : (zI x).toBitVec.toNat = (x % 4294967296).toNat := by
      show (BitVec.ofInt 32 x).toNat = _
      rw [BitVec.toNat_ofInt]
      rfl
    rw [e1, show (zI 63).toBitVec.toNat = 2 ^ 6 - 1 by decide, Nat.and_two_pow_sub_one_eq_mod]
    omega
  rw [← Int32.toInt_toBitVec, BitVec.toInt_eq_toNat_bmod, e2, Int.bmod_def]
  have : (2 : Int) ^ 32 = 4294967296 := by decide
  split <;> omega
