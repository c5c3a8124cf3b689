/-! rows of floats -/
section ZFL
variable {g : zG} {A : Nat → Prop} {p : Program} {l : Launch} {e : Env} {R : Room} {s : State} {m : MethodId} {args : Array Value} {below : List Frame} {meth : Method} {c : Code} {H : Heap} {locs : List Loc} {cells slots : Nat} {Q : State → Prop}
variable {cc : ByteArray} {nL : Nat} {own : String} {pc : Nat} {N : zNs} {ls : Array Slot} {rest : List Value} {ad : Int → Nat} {M F : zMem}
theorem z_fconst0 (C0 : zC g A p s m args c cc nL own) (hdg : decode cc pc = .ok (.fconst 0, 1)) (k : W p l e R s m args below meth c H locs cells slots Q (F0 m (pc + 1) ls (.float FP.fconst0 :: rest))) : W p l e R s m args below meth c H locs cells slots Q (F0 m pc ls (rest)) := lv_fconst0 C0.1.1 C0.1.2.1 hdg k
theorem z_fconst1 (C0 : zC g A p s m args c cc nL own) (hdg : decode cc pc = .ok (.fconst 1, 1)) (k : W p l e R s m args below meth c H locs cells slots Q (F0 m (pc + 1) ls (.float FP.fconst1 :: rest))) : W p l e R s m args below meth c H locs cells slots Q (F0 m pc ls (rest)) := lv_fconst1 C0.1.1 C0.1.2.1 hdg k
theorem z_fconst2 (C0 : zC g A p s m args c cc nL own) (hdg : decode cc pc = .ok (.fconst 2, 1)) (k : W p l e R s m args below meth c H locs cells slots Q (F0 m (pc + 1) ls (.float FP.fconst2 :: rest))) : W p l e R s m args below meth c H locs cells slots Q (F0 m pc ls (rest)) := lv_fconst2 C0.1.1 C0.1.2.1 hdg k
theorem z_dconst0 (C0 : zC g A p s m args c cc nL own) (hdg : decode cc pc = .ok (.dconst 0, 1)) (k : W p l e R s m args below meth c H locs cells slots Q (F0 m (pc + 1) ls (.double FP.dconst0 :: rest))) : W p l e R s m args below meth c H locs cells slots Q (F0 m pc ls (rest)) := lv_dconst0 C0.1.1 C0.1.2.1 hdg k
theorem z_fload_n (C0 : zC g A p s m args c cc nL own) {lv : List (Nat × Value)} (hl : lv_has ls nL lv) (q : Nat) {k : Fin 4} {x : UInt32} (hq : lv[q]? = some ((k : Nat), .float x)) (hdg : decode cc pc = .ok (.fload_n k, 1)) (kk : W p l e R s m args below meth c H locs cells slots Q (F0 m (pc + 1) ls (.float x :: rest))) : W p l e R s m args below meth c H locs cells slots Q (F0 m pc ls (rest)) := lv_fload_n C0.1.1 C0.1.2.1 hdg rfl (lv_at hl q hq) kk
theorem z_fload (C0 : zC g A p s m args c cc nL own) {lv : List (Nat × Value)} (hl : lv_has ls nL lv) (q : Nat) {i : Nat} {x : UInt32} (hq : lv[q]? = some (i, .float x)) (hdg : decode cc pc = .ok (.fload i, 2)) (kk : W p l e R s m args below meth c H locs cells slots Q (F0 m (pc + 2) ls (.float x :: rest))) : W p l e R s m args below meth c H locs cells slots Q (F0 m pc ls (rest)) := lv_fload C0.1.1 C0.1.2.1 hdg (lv_at hl q hq) kk
theorem z_fstore_n (C0 : zC g A p s m args c cc nL own) {lv : List (Nat × Value)} (hl : lv_has ls nL lv) {k : Fin 4} {x : UInt32} (lv' : List (Nat × Value)) (hn : (k : Nat) < nL) (h : ((k : Nat), Value.float x) :: zdrop k lv = lv') (hdg : decode cc pc = .ok (.fstore_n k, 1)) (kk : ∀ ls', lv_has ls' nL lv' → W p l e R s m args below meth c H locs cells slots Q (F0 m (pc + 1) ls' rest)) : W p l e R s m args below meth c H locs cells slots Q (F0 m pc ls (.float x :: rest)) := lv_fstore_n C0.1.1 C0.1.2.1 hdg rfl hl hn h kk
theorem z_fadd (C0 : zC g A p s m args c cc nL own) {x y : UInt32} (hne : vf_n32 (FP.fadd x y)) (hdg : decode cc pc = .ok (.fadd, 1)) (k : W p l e R s m args below meth c H locs cells slots Q (F0 m (pc + 1) ls (.float (FP.fadd x y) :: rest))) : W p l e R s m args below meth c H locs cells slots Q (F0 m pc ls (.float y :: .float x :: rest)) := lv_fadd C0.1.1 C0.1.2.1 hdg hne k
theorem z_fsub (C0 : zC g A p s m args c cc nL own) {x y : UInt32} (hne : vf_n32 (FP.fsub x y)) (hdg : decode cc pc = .ok (.fsub, 1)) (k : W p l e R s m args below meth c H locs cells slots Q (F0 m (pc + 1) ls (.float (FP.fsub x y) :: rest))) : W p l e R s m args below meth c H locs cells slots Q (F0 m pc ls (.float y :: .float x :: rest)) := lv_fsub C0.1.1 C0.1.2.1 hdg hne k
theorem z_fmul (C0 : zC g A p s m args c cc nL own) {x y : UInt32} (hne : vf_n32 (FP.fmul x y)) (hdg : decode cc pc = .ok (.fmul, 1)) (k : W p l e R s m args below meth c H locs cells slots Q (F0 m (pc + 1) ls (.float (FP.fmul x y) :: rest))) : W p l e R s m args below meth c H locs cells slots Q (F0 m pc ls (.float y :: .float x :: rest)) := lv_fmul C0.1.1 C0.1.2.1 hdg hne k
theorem z_fdiv (C0 : zC g A p s m args c cc nL own) {x y : UInt32} (hne : vf_n32 (FP.fdiv x y)) (hdg : decode cc pc = .ok (.fdiv, 1)) (k : W p l e R s m args below meth c H locs cells slots Q (F0 m (pc + 1) ls (.float (FP.fdiv x y) :: rest))) : W p l e R s m args below meth c H locs cells slots Q (F0 m pc ls (.float y :: .float x :: rest)) := lv_fdiv C0.1.1 C0.1.2.1 hdg hne k
theorem z_ddiv (C0 : zC g A p s m args c cc nL own) {x y : UInt64} (hne : vf_n64 (FP.ddiv x y)) (hdg : decode cc pc = .ok (.ddiv, 1)) (k : W p l e R s m args below meth c H locs cells slots Q (F0 m (pc + 1) ls (.double (FP.ddiv x y) :: rest))) : W p l e R s m args below meth c H locs cells slots Q (F0 m pc ls (.double y :: .double x :: rest)) := lv_ddiv C0.1.1 C0.1.2.1 hdg hne k
theorem z_i2f (C0 : zC g A p s m args c cc nL own) {x : Int32} (hdg : decode cc pc = .ok (.i2f, 1)) (k : W p l e R s m args below meth c H locs cells slots Q (F0 m (pc + 1) ls (.float (FP.i2f x) :: rest))) : W p l e R s m args below meth c H locs cells slots Q (F0 m pc ls (.int x :: rest)) := lv_i2f C0.1.1 C0.1.2.1 hdg k
theorem z_i2d (C0 : zC g A p s m args c cc nL own) {x : Int32} (hdg : decode cc pc = .ok (.i2d, 1)) (k : W p l e R s m args below meth c H locs cells slots Q (F0 m (pc + 1) ls (.double (FP.i2d x) :: rest))) : W p l e R s m args below meth c H locs cells slots Q (F0 m pc ls (.int x :: rest)) := lv_i2d C0.1.1 C0.1.2.1 hdg k
theorem z_f2i (C0 : zC g A p s m args c cc nL own) {x : UInt32} {v : Int} (hv : FP.f2i x = zI v) (hdg : decode cc pc = .ok (.f2i, 1)) (k : W p l e R s m args below meth c H locs cells slots Q (F0 m (pc + 1) ls (.int (zI v) :: rest))) : W p l e R s m args below meth c H locs cells slots Q (F0 m pc ls (.float x :: rest)) := lv_f2i C0.1.1 C0.1.2.1 hdg (by rw [hv]; exact k)
theorem z_fcmp (C0 : zC g A p s m args c cc nL own) {x y : UInt32} {op : CmpOp} {v : Int} (hv : Op.cmpValue (FP.fcmp x y) op = zI v) (hdg : decode cc pc = .ok (.fcmp op, 1)) (k : W p l e R s m args below meth c H locs cells slots Q (F0 m (pc + 1) ls (.int (zI v) :: rest))) : W p l e R s m args below meth c H locs cells slots Q (F0 m pc ls (.float y :: .float x :: rest)) := lv_fcmp C0.1.1 C0.1.2.1 hdg (by rw [hv]; exact k)
theorem z_dcmp (C0 : zC g A p s m args c cc nL own) {x y : UInt64} {op : CmpOp} {v : Int} (hv : Op.cmpValue (FP.dcmp x y) op = zI v) (hdg : decode cc pc = .ok (.dcmp op, 1)) (k : W p l e R s m args below meth c H locs cells slots Q (F0 m (pc + 1) ls (.int (zI v) :: rest))) : W p l e R s m args below meth c H locs cells slots Q (F0 m pc ls (.double y :: .double x :: rest)) := lv_dcmp C0.1.1 C0.1.2.1 hdg (by rw [hv]; exact k)
theorem z_f2d (C0 : zC g A p s m args c cc nL own) {x : UInt32} (hne : vf_n64 (FP.f2d x)) (hdg : decode cc pc = .ok (.f2d, 1)) (k : W p l e R s m args below meth c H locs cells slots Q (F0 m (pc + 1) ls (.double (FP.f2d x) :: rest))) : W p l e R s m args below meth c H locs cells slots Q (F0 m pc ls (.float x :: rest)) := lv_f2d C0.1.1 C0.1.2.1 hdg hne k
theorem z_fraw (C0 : zC g A p s m args c cc nL own) (hsz : ls.size = nL) {x : UInt32} {v : Int} {idx : Nat} (hv : x.toInt32 = zI v) (hR : 1 ≤ R.frames ∧ (rest.map fun v => v.category).sum + 15 ≤ R.locals) (hlink : Cond.methodLink own idx ⟨"java/lang/Float", "floatToRawIntBits", "(F)I"⟩ ∈ zT) (h1 : Cond.native ⟨"java/lang/Float", "floatToRawIntBits", "(F)I"⟩ ∈ zT) (h2 : Cond.static ⟨"java/lang/Float", "floatToRawIntBits", "(F)I"⟩ ∈ zT) (h3 : Cond.initialized "java/lang/Float" ∈ zT) (hdg : decode cc pc = .ok (.invokestatic idx, 3)) (k : W p l e R s m args below meth c H locs cells slots Q (F0 m (pc + 3) ls (.int (zI v) :: rest))) : W p l e R s m args below meth c H locs cells slots Q (F0 m pc ls (.float x :: rest)) := vn_f2i C0.1.1 C0.1.2.1 (by rw [C0.1.2.2.1, hsz]) C0.1.2.2.2.1 (C0.1.2.2.2.2 _ hlink) (C0.1.2.2.2.2 _ h1) (C0.1.2.2.2.2 _ h2) (C0.1.2.2.2.2 _ h3) hR.1 hR.2 hdg (by rw [hv]; exact k)
end ZFL
theorem zf_cmp32 {x : UInt32} (h : zf32 x) : FP.fcmp x x = some .eq := by
  show FP.Core.order (FP.Core.decode FP.Core.b32 x.toNat) (FP.Core.decode FP.Core.b32 x.toNat) = _
  have hc : ∀ a : Int, compare a a = .eq := fun a => by rw [Int.compare_eq_eq]
  rcases zf_dec32 h with ⟨c, q, e⟩ | e <;> rw [e]
  · show some (compare _ _) = _
    rw [hc]
  · show some (compare _ _) = _
    rw [hc]
theorem zf_cmpv {x : UInt32} {op : CmpOp} (h : zf32 x) : Op.cmpValue (FP.fcmp x x) op = zI 0 := by
  rw [zf_cmp32 h]
  rfl
theorem zf_cmpv64 {x : UInt64} {op : CmpOp} (h : zf64 x) : Op.cmpValue (FP.dcmp x x) op = zI 0 := by
  rw [zf_cmp64 h]
  rfl
/-- the model's loudness -/
def zLd (a b : Int) (V : Int → Int) : UInt32 := if a = b then FP.fconst1 else zfl (zBF V a b)
theorem zLd_ok {a b : Int} {V : Int → Int} (hT : ∀ i, 8 ≤ i → i < 72 → 0 ≤ V i ∧ V i ≤ 9) (hb : 0 ≤ b ∧ b < 8) : zf32 (zLd a b V) := by
  unfold zLd
  split
  · exact zf_c1
  · have h := zBF_bd (V := V) (a := a) hT b hb.1 hb.2
    exact zf_fl h.1 h.2
def zMls (b : Int) (V : Int → Int) (n : Nat) : UInt32 := zfold (fun a c => FP.fadd c (zLd a b V)) n FP.fconst0
theorem zMls_ok {b : Int} {V : Int → Int} (hT : ∀ i, 8 ≤ i → i < 72 → 0 ≤ V i ∧ V i ≤ 9) (hb : 0 ≤ b ∧ b < 8) (n : Nat) : zf32 (zMls b V n) := by
  unfold zMls
  exact zfold_ind (fun _ c => zf32 c) zf_c0 (fun k c _ h => zf_add32 h (zLd_ok hT hb))
def zMl (b : Int) (V : Int → Int) : UInt32 := FP.fdiv (zMls b V (V 0).toNat) (FP.i2f (zI (V 0)))
theorem zMl_ok {b : Int} {V : Int → Int} (hT : ∀ i, 8 ≤ i → i < 72 → 0 ≤ V i ∧ V i ≤ 9) (hb : 0 ≤ b ∧ b < V 0) (h0 : V 0 ≤ 8) : zf32 (zMl b V) := zf_div32 (zMls_ok hT ⟨hb.1, by omega⟩ _) (zf_cn (by omega) h0)
def zDf (V : Int → Int) : UInt64 := FP.ddiv (FP.i2d (zI (V 6))) (FP.i2d (zI (V 6 + V 7)))
theorem zDf_ok {V : Int → Int} (h6 : 0 ≤ V 6 ∧ V 6 < 1000000000) (h : 0 < V 6 + V 7 ∧ V 6 + V 7 < 2000000000) : zf64 (zDf V) := zf_div64 (zf_i264 (by rw [zI_toInt (by omega) (by omega)]; omega)) (zf_i2dn (by rw [zI_toInt (by omega) (by omega)]; omega))
