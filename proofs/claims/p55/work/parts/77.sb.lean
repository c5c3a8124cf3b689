/-! calls on the StringBuilder: of the superclass, of a private method above -/
theorem z_sameM {args : Array Value} {s : State} {C : String} {y z : MethodName} (hz : (Cond.selects C z z).before args s = true) (hcls : z.cls = y.cls) (h1 : (Cond.instanceMethod y).before args s = true) (hy : y.cls ≠ "java/lang/invoke/MethodHandle" ∧ y.cls ≠ "java/lang/invoke/VarHandle") : (Cond.sameMethod y.cls y.cls y.name y.desc).before args s = true := by
  obtain ⟨c, r, mz, hc, -, hmz, -, mk, hmk, hif⟩ := Cond.selects_spec (show (Cond.selects C z z).holds args s none s [] = true from hz)
  obtain ⟨m, meth, hn, hm, hst, -⟩ := Cond.instanceMethod_spec (show (Cond.instanceMethod y).holds args s none s [] = true from h1)
  have hf := State.methodFound?_of_named hn hy
  have hn' : s.methodNamed? ⟨y.cls, y.name, y.desc⟩ = some m := hn
  have h2 := findClass_of_methodNamed hmz
  rw [hcls] at h2
  simp [Cond.before, Cond.holds, Cond.value, hf, hn', h2, hmk, hif]
theorem z_selP {args : Array Value} {s : State} {C : String} {y z : MethodName} (hz : (Cond.selects C z z).before args s = true) (hcls : z.cls = y.cls) (hp : (Cond.privateMethod y).before args s = true) (hi : (Cond.instanceMethod y).before args s = true) (hy : y.cls ≠ "java/lang/invoke/MethodHandle" ∧ y.cls ≠ "java/lang/invoke/VarHandle") : (Cond.selects C y y).before args s = true := by
  obtain ⟨c, r, m, hc, -, hm, -, mk, hmk, hif⟩ := Cond.selects_spec (show (Cond.selects C z z).holds args s none s [] = true from hz)
  obtain ⟨m', meth, hn, hmeth, hst, -⟩ := Cond.instanceMethod_spec (show (Cond.instanceMethod y).holds args s none s [] = true from hi)
  have h1 := findClass_of_methodNamed hm
  have h2 := findClass_of_methodNamed hn
  rw [hcls] at h1
  have e : m'.cls = m.cls := Option.some.inj (h2.symm.trans h1)
  have hf := State.methodFound?_of_named hn hy
  have hs : selectMethod {} s.vm c m' = .method m' := selectMethod_private hmeth (Cond.privateMethod_at hp m' meth hn hmeth)
  have hk : s.vm.classes[m'.cls]? = some mk := by
    rw [e]
    exact hmk
  simp [Cond.before, Cond.holds, Cond.value, hc, hf, hn, hs, hk, hif]
section ZSB
variable {g : zG} {A : Nat → Prop} {p : Program} {l : Launch} {e : Env} {R : Room} {s : State} {m : MethodId} {args : Array Value} {below : List Frame} {meth : Method} {c : Code} {H : Heap} {locs : List Loc} {cells slots : Nat} {Q : State → Prop}
variable {cc : ByteArray} {nL : Nat} {own : String} {pc : Nat} {N : zNs} {ls : Array Slot} {rest st0 : List Value} {ad : Int → Nat} {M F : zMem}
variable {post : Option Value → zMem → zMem → Prop} {mc ms : Nat}
/-- a private method's words, and a method of its class that the receiver's class selects -/
def zKP (y z : MethodName) (cc : ByteArray) (nL : Nat) (ret : Option FieldType) (C : String) (n : Nat) : Prop :=
  Cond.code y cc nL ret ∈ zT ∧ Cond.instanceMethod y ∈ zT ∧ (Cond.selects C z z ∈ zT ∧ z.cls = y.cls ∧ y ∈ zPrs) ∧ Cond.initialized y.cls ∈ zT ∧ y.cls ≠ "java/lang/invoke/MethodHandle" ∧ y.cls ≠ "java/lang/invoke/VarHandle" ∧ (parseMethodDescriptor y.desc).map (fun d => d.parameters.length) = some n
theorem z_invP {b : Nat} {C : String} {y z : MethodName} {cc' : ByteArray} {nL' : Nat} {ret' : Option FieldType} {d n idx : Nat} {As : List Value} (C0 : zC g A p s m args c cc nL own) (Wd : zW g A s.heap N ad M F H locs) (hM : zMt l y cc' nL' ret' d mc ms g N ad (.ref b :: As) M F post) (kv : zKP y z cc' nL' ret' C n) (hrecv : ∃ cell : Cell, H[b]? = some cell ∧ cell.vm.isStatics = false ∧ s.vm.findClass C = some cell.cls) (hlink : Cond.methodLink own idx y ∈ zT) (hn : As.length = n) (hsz : ls.size = nL) (hst0 : st0 = As.reverse ++ .ref b :: rest) (hst : (rest.map fun v => v.category).sum ≤ 8) (hR : d + 1 ≤ R.frames ∧ 8 + (nL' + 11) + 60 * d ≤ R.locals) (hf : cells + mc ≤ R.cells ∧ slots + ms ≤ R.slots) (hdg : decode cc pc = .ok (.invokevirtual idx, 3)) (kk : ∀ (v : Option Value) (M' F' : zMem) (H1 : Heap) (locs1 : List Loc), post v M' F' → zW g A s.heap N ad M' F' H1 locs1 → W p l e R s m args below meth c H1 locs1 (cells + mc) (slots + ms) Q (F0 m (pc + 3) ls (v.toList ++ rest))) : W p l e R s m args below meth c H locs cells slots Q (F0 m pc ls st0) := by
  obtain ⟨k1, k2, k3, k4, k5, k6, k7⟩ := kv
  have hsel : (Cond.selects C y y).before args s = true := z_selP (C0.1.2.2.2.2 _ k3.1) k3.2.1 (va_Nw.use rfl (zc_pr C0 k3.2.2)) (C0.1.2.2.2.2 _ k2) ⟨k5, k6⟩
  exact z_call (va_runV (As := As) (rest := rest) C0.1 (hM H.size) ⟨z_callB C0 k1 k4 ⟨k5, k6, k7⟩ hlink hR, C0.1.2.2.2.2 _ k2, hsel⟩ ⟨zPre_blind, hrecv, zPre_of C0 Wd _⟩ rfl hn hsz hst0 (lv_room hst) hdg hf) C0 Wd kk
/-- a superclass's method's words -/
def zKU9 (y z : MethodName) (cc : ByteArray) (nL : Nat) (ret : Option FieldType) (own C : String) (k n : Nat) : Prop :=
  Cond.code y cc nL ret ∈ zT ∧ Cond.instanceMethod y ∈ zT ∧ (Cond.superclass own y.cls ∈ zT ∧ Cond.instantiable C k ∈ zT ∧ Cond.selects C z z ∈ zT ∧ z.cls = y.cls) ∧ Cond.initialized y.cls ∈ zT ∧ y.cls ≠ "java/lang/invoke/MethodHandle" ∧ y.cls ≠ "java/lang/invoke/VarHandle" ∧ y.name ≠ "<init>" ∧ (parseMethodDescriptor y.desc).map (fun d => d.parameters.length) = some n
theorem z_invSU {b k : Nat} {C : String} {y z : MethodName} {cc' : ByteArray} {nL' : Nat} {ret' : Option FieldType} {d n idx : Nat} {As : List Value} (C0 : zC g A p s m args c cc nL own) (Wd : zW g A s.heap N ad M F H locs) (hM : zMt l y cc' nL' ret' d mc ms g N ad (.ref b :: As) M F post) (kv : zKU9 y z cc' nL' ret' own C k n) (hrecv : ∃ cell : Cell, H[b]? = some cell ∧ cell.vm.isStatics = false ∧ s.vm.findClass C = some cell.cls) (hlink : Cond.methodLink own idx y ∈ zT) (hn : As.length = n) (hsz : ls.size = nL) (hst0 : st0 = As.reverse ++ .ref b :: rest) (hst : (rest.map fun v => v.category).sum ≤ 8) (hR : d + 1 ≤ R.frames ∧ 8 + (nL' + 11) + 60 * d ≤ R.locals) (hf : cells + mc ≤ R.cells ∧ slots + ms ≤ R.slots) (hdg : decode cc pc = .ok (.invokespecial idx, 3)) (kk : ∀ (v : Option Value) (M' F' : zMem) (H1 : Heap) (locs1 : List Loc), post v M' F' → zW g A s.heap N ad M' F' H1 locs1 → W p l e R s m args below meth c H1 locs1 (cells + mc) (slots + ms) Q (F0 m (pc + 3) ls (v.toList ++ rest))) : W p l e R s m args below meth c H locs cells slots Q (F0 m pc ls st0) := by
  obtain ⟨k1, k2, k3, k4, k5, k6, k7, k8⟩ := kv
  have hins := C0.1.2.2.2.2 _ k3.2.1
  obtain ⟨c1, kX, hc1, hk, hord, -⟩ := Cond.instantiable_spec (show (Cond.instantiable C k).holds args s none s [] = true from hins)
  refine z_call (va_runSU (As := As) (rest := rest) (cC := c1) ⟨hc1, kX, hk, hord⟩ C0.1 (hM H.size) ⟨⟨rfl, rfl, hR.1, hR.2, pay_in C0.1.2.2.2.2 (zGoodT k1), List.mem_cons_self⟩, C0.1.2.2.2.2 _ hlink, z_sameM (C0.1.2.2.2.2 _ k3.2.2.1) k3.2.2.2 (C0.1.2.2.2.2 _ k2) ⟨k5, k6⟩, C0.1.2.2.2.2 _ k3.1, C0.1.2.2.2.2 _ k2, C0.1.2.2.2.2 _ k4, C0.1.2.2.2.2 _ k1, k7, fun sig h => ?_⟩ ⟨zPre_blind, hrecv, zPre_of C0 Wd _⟩ rfl hn hsz hst0 (lv_room hst) hdg hf) C0 Wd kk
  rw [h] at k8
  exact (Option.some.inj k8).symm
theorem vp_nar_b {v : Int} (h0 : 0 ≤ v) (h1 : v < 128) : vp_nar .byte (zI v) = zI v := by
  have h : ∀ n : Fin 128, vp_nar .byte (zI (n.val : Int)) = zI (n.val : Int) := by decide +kernel
  have q := h ⟨v.toNat, by omega⟩
  rw [show (((⟨v.toNat, by omega⟩ : Fin 128).val : Nat) : Int) = v from Int.toNat_of_nonneg h0] at q
  exact q
theorem zI_i2b {v : Int} (h0 : 0 ≤ v) (h1 : v < 128) : (zI v).toInt8.toInt32 = zI v := by
  have h : ∀ n : Fin 128, (zI (n.val : Int)).toInt8.toInt32 = zI (n.val : Int) := by decide +kernel
  have q := h ⟨v.toNat, by omega⟩
  rw [show (((⟨v.toNat, by omega⟩ : Fin 128).val : Nat) : Int) = v from Int.toNat_of_nonneg h0] at q
  exact q
theorem z_i2b (C0 : zC g A p s m args c cc nL own) {v : Int} (h0 : 0 ≤ v) (h1 : v < 128) (hdg : decode cc pc = .ok (.i2b, 1)) (k : W p l e R s m args below meth c H locs cells slots Q (F0 m (pc + 1) ls (.int (zI v) :: rest))) : W p l e R s m args below meth c H locs cells slots Q (F0 m pc ls (.int (zI v) :: rest)) := lv_i2b C0.1.1 C0.1.2.1 hdg (zI_i2b h0 h1) k
theorem z_bald (C0 : zC g A p s m args c cc nL own) (Wd : zW g A s.heap N ad M F H locs) {i : Int} {n : Nat} {t : Int} (hi : zIn N i) (hk : zkd i = 11) (hn : zln i = n) (h0 : 0 ≤ t) (h1 : t < (n : Int)) (hN : n ≤ 2147483647) (hdg : decode cc pc = .ok (.baload, 1)) (kk : W p l e R s m args below meth c H locs cells slots Q (F0 m (pc + 1) ls (.int (zI (M i t)) :: rest))) : W p l e R s m args below meth c H locs cells slots Q (F0 m pc ls (.int (zI t) :: .ref (ad i) :: rest)) := by
  refine va_bald C0.1.1 C0.1.2.1 C0.2.1 Wd.1.1 (i - N.1).toNat 0 (by rw [wl_get hi, zE_11 hk, hn]) rfl (zI_in h0 h1 (by omega)) hdg ?_
  rw [zRow_at h0 (by omega)]
  exact kk
theorem z_bast (C0 : zC g A p s m args c cc nL own) (Wd : zW g A s.heap N ad M F H locs) {i : Int} {n : Nat} {t v : Int} (hi : zIn N i) (hk : zkd i = 11) (hn : zln i = n) (h0 : 0 ≤ t) (h1 : t < (n : Int)) (hN : n ≤ 2147483647) (hv : 0 ≤ v ∧ v < 128) (hdg : decode cc pc = .ok (.bastore, 1)) (kk : ∀ (H1 : Heap) (locs1 : List Loc), zW g A s.heap N ad (zu M i t v) F H1 locs1 → W p l e R s m args below meth c H1 locs1 cells slots Q (F0 m (pc + 1) ls rest)) : W p l e R s m args below meth c H locs cells slots Q (F0 m pc ls (.int (zI v) :: .int (zI t) :: .ref (ad i) :: rest)) := by
  refine va_bast C0.1.1 C0.1.2.1 C0.2.1 Wd.1.1 Wd.1.2.1 Wd.1.2.2 (i - N.1).toNat 0 (by rw [wl_get hi, zE_11 hk, hn]) rfl (zI_in h0 h1 (by omega)) hdg (fun H1 locs1 hP hD hS => ?_)
  rw [vp_nar_b hv.1 hv.2, zRow_upd h0 (by omega)] at hP hD
  rw [wl_put (M' := zu M i t v) (F' := F) hi (by rw [zE_11 hk, hn, zu_self]) (fun a ha => zu_row ha) (fun _ _ => rfl)] at hP hD
  exact kk H1 locs1 ⟨⟨hP, hD, hS⟩, zRM_zu Wd.2 ⟨by omega, by omega⟩⟩
theorem z_blen (C0 : zC g A p s m args c cc nL own) (Wd : zW g A s.heap N ad M F H locs) {i : Int} {n : Nat} (hi : zIn N i) (hk : zkd i = 11) (hn : zln i = n) (hdg : decode cc pc = .ok (.arraylength, 1)) (kk : W p l e R s m args below meth c H locs cells slots Q (F0 m (pc + 1) ls (.int (zI (n : Int)) :: rest))) : W p l e R s m args below meth c H locs cells slots Q (F0 m pc ls (.ref (ad i) :: rest)) :=
  va_alen C0.1.1 C0.1.2.1 C0.2.1 Wd.1.1 (i - N.1).toNat 0 (by rw [wl_get hi, zE_11 hk, hn]) rfl (by rw [zI_nI]; rfl) hdg kk
end ZSB
