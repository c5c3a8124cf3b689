/-! the bits of a loudness, as the class finds them -/
section ZLW
variable {g : zG} {A : Nat → Prop} {p : Program} {l : Launch} {e : Env} {R : Room} {s : State} {m : MethodId} {args : Array Value} {below : List Frame} {meth : Method} {c : Code} {H : Heap} {locs : List Loc} {cells slots : Nat} {Q : State → Prop}
variable {cc : ByteArray} {nL : Nat} {own : String} {pc : Nat} {ls : Array Slot} {rest : List Value}
theorem z_ldcwF (C0 : zC g A p s m args c cc nL own) {b : UInt32} {index : Nat} (hconst : Cond.constantFloat own index b ∈ zT) (hdg : decode cc pc = .ok (.ldc_w index, 3)) (k : W p l e R s m args below meth c H locs cells slots Q (F0 m (pc + 3) ls (.float b :: rest))) : W p l e R s m args below meth c H locs cells slots Q (F0 m pc ls rest) := by
  intro T hT X
  obtain ⟨t, a, q⟩ := k T hT X
  obtain ⟨kc, cf, hk, hcf, hcp⟩ := Cond.constantFloat_spec C0.1.2.2.2.1 (show (Cond.constantFloat own index b).holds args s none s [] = true from C0.1.2.2.2.2 _ hconst)
  obtain ⟨k', hk', he⟩ := X.warmed.alike.2.2 _ _ hk
  refine ⟨t, ?_, q⟩
  have hd : decode c.code (F0 m pc ls rest).pc = .ok (.ldc_w index, 3) := by
    rw [C0.1.2.1]
    exact hdg
  have hexec := C0.1.1
  jvm_step X.here [hexec, hd, ldc_w.wp_float (s := T) (f := F0 m pc ls rest) X.here.top hk' (by rw [he]; exact hcf) hcp]
  exact a
end ZLW
/-- the comparison's value -/
def zcz (y : UInt32) : Int := (Op.cmpValue (FP.fcmp y FP.fconst0) .g).toInt
def zcv (y : UInt32) : Int := (Op.cmpValue (FP.fcmp y FP.fconst1) .g).toInt
def zbf (x : UInt32) : Nat → UInt32
  | 0 => x
  | k + 1 => FP.fmul (zbf x k) FP.fconst2
def zbn (d : Int) : Nat := if d = 0 then 0 else if d ≤ 1 then 1 else if d ≤ 3 then 2 else if d ≤ 7 then 3 else if d ≤ 15 then 4 else if d ≤ 31 then 5 else 6
def zfm (x : UInt32) : UInt32 := FP.fmul (FP.fsub x FP.fconst1) 1258291200
def zfi (x : UInt32) : Int := (FP.f2i (zfm x)).toInt
theorem zbn_6 (d : Int) : zbn d ≤ 6 := by
  unfold zbn
  repeat (split <;> try omega)
theorem zbt_1 : ∀ d : Fin 64, zcz (zfl (d.val : Int)) = 1 := by decide +kernel
theorem zbt_2 : ∀ d : Fin 64, ∀ k : Fin 7, k.val < zbn (d.val : Int) → zcv (zbf (zfl (d.val : Int)) k.val) < 0 := by decide +kernel
theorem zbt_3 : ∀ d : Fin 64, 0 ≤ zcv (zbf (zfl (d.val : Int)) (zbn (d.val : Int))) := by decide +kernel
theorem zbt_4 : ∀ d : Fin 64, ∀ k : Fin 7, k.val < zbn (d.val : Int) → vf_n32 (FP.fmul (zbf (zfl (d.val : Int)) k.val) FP.fconst2) := by
  unfold vf_n32
  decide +kernel
theorem zbt_5 : ∀ d : Fin 64, vf_n32 (FP.fsub (zbf (zfl (d.val : Int)) (zbn (d.val : Int))) FP.fconst1) ∧ vf_n32 (zfm (zbf (zfl (d.val : Int)) (zbn (d.val : Int)))) := by
  unfold vf_n32
  decide +kernel
theorem zbt_6 : ∀ d : Fin 64, (127 - (zbn (d.val : Int) : Int)) * 8388608 + zfi (zbf (zfl (d.val : Int)) (zbn (d.val : Int))) = (zfl (d.val : Int)).toInt32.toInt := by decide +kernel
theorem zbt_0 : zcz (zfl 1000) = 0 ∧ (zfl 1000).toInt32.toInt = 0 := by decide +kernel
theorem zfin {P : Int → Prop} (h : ∀ d : Fin 64, P (d.val : Int)) {d : Int} (h0 : 0 ≤ d ∧ d ≤ 63) : P d := by
  have q := h ⟨d.toNat, by omega⟩
  rw [show (((⟨d.toNat, by omega⟩ : Fin 64).val : Nat) : Int) = d from Int.toNat_of_nonneg h0.1] at q
  exact q
theorem zfin7 {P : Int → Nat → Prop} (h : ∀ d : Fin 64, ∀ k : Fin 7, P (d.val : Int) k.val) {d : Int} (h0 : 0 ≤ d ∧ d ≤ 63) {k : Nat} (hk : k < 7) : P d k := zfin (P := fun d => P d k) (fun d => h d ⟨k, hk⟩) h0
theorem zI_shl23 {x : Int} (h0 : 0 ≤ x) (h1 : x < 256) : zI x <<< (zI 23 &&& 31) = zI (x * 8388608) := by
  have h : ∀ n : Fin 256, zI (n.val : Int) <<< (zI 23 &&& 31) = zI ((n.val : Int) * 8388608) := by decide +kernel
  have q := h ⟨x.toNat, by omega⟩
  rw [show (((⟨x.toNat, by omega⟩ : Fin 256).val : Nat) : Int) = x from Int.toNat_of_nonneg h0] at q
  exact q
