/-! contracts over the memory, and their calls -/
theorem zGoodT {y : MethodName} {cc : ByteArray} {nL : Nat} {ret : Option FieldType} (h : Cond.code y cc nL ret ∈ zT) : GoodIn zT (Cond.code y cc nL ret :: zT) := by
  intro w hw
  rcases List.mem_cons.mp hw with rfl | hw
  · exact ⟨h, good_of_word (List.mem_filter.mp h).2⟩
  · exact ⟨hw, good_of_word (List.mem_filter.mp hw).2⟩
abbrev zrm (d mc ms : Nat) : Room := { frames := d, cells := mc, slots := ms, locals := 60 * d }
def zPre (g : zG) (N : zNs) (ad : Int → Nat) (M F : zMem) (sz : Nat) (U : State) : Prop :=
  U.heap.size = sz ∧ va_P (g.1, g.2.1) zCl (wl g N ad M F) U.heap ∧ va_K (g.1, g.2.1) zCl (zty g) U ∧ va_D (fun _ => True) (wl g N ad M F) ∧ zRM M ∧ zS g (zA N ad sz) U U.heap
def zQ (g : zG) (N : zNs) (ad : Int → Nat) (sz : Nat) (post : Option Value → zMem → zMem → Prop) : Array Value → State → Outcome → State → Prop := fun _ st o t =>
  (∃ (v : Option Value) (M F : zMem), o = .returned v ∧ post v M F ∧ va_P (g.1, g.2.1) zCl (wl g N ad M F) t.heap ∧ va_D (zA N ad sz) (wl g N ad M F) ∧ zRM M) ∧ va_F (zA N ad sz) st t
def zMt (l : Launch) (y : MethodName) (cc : ByteArray) (nL : Nat) (ret : Option FieldType) (d mc ms : Nat) (g : zG) (N : zNs) (ad : Int → Nat) (av : List Value) (M F : zMem) (post : Option Value → zMem → zMem → Prop) : Prop :=
  ∀ sz, Met l y (Cond.code y cc nL ret :: zT) (zrm d mc ms) (va_Pc av (zPre g N ad M F sz)) (zQ g N ad sz post) mc ms (zA N ad sz)
abbrev zMQ (below : List Frame) (g : zG) (N : zNs) (ad : Int → Nat) (post : Option Value → zMem → zMem → Prop) (args : Array Value) (s : State) (mc ms : Nat) : State → Prop := MQ below (zQ g N ad s.heap.size post) args s mc ms (zA N ad s.heap.size)
theorem zPre_blind {g : zG} {N : zNs} {ad : Int → Nat} {M F : zMem} {sz : Nat} {av : List Value} : FrameBlind (va_Pc av (zPre g N ad M F sz)) := by
  intro a U fr mk q
  obtain ⟨q0, q1, q2, q3, q4, q5, q6⟩ := q
  refine ⟨q0, q1, q2, va_K.moved (u := U) (U := U.calling fr mk a) (Vm.Alike.refl U.vm) q3, q4, q5, ?_⟩
  exact zS.pass (s := U) (U := U.calling fr mk a) q6 (va_S.rf) (Vm.Alike.refl U.vm) (fun h => zSb.same rfl h) rfl (fun _ h => h)
theorem zA_sub {g : zG} {A : Nat → Prop} {H0 : Heap} {N : zNs} {ad : Int → Nat} {M F : zMem} {H : Heap} {locs : List Loc} (Wd : zW g A H0 N ad M F H locs) (hA : ∀ q, H0.size ≤ q → A q) : ∀ q, zA N ad H.size q → A q := by
  intro q h
  rcases h with (⟨i, hi, rfl⟩ | ⟨x, hx, rfl⟩) | h
  · exact Wd.inA hi
  · obtain ⟨k, hk⟩ := List.getElem?_of_mem (List.mem_append_right (wlC g N ad M F) hx)
    exact Wd.1.2.1.2 k _ hk
  · exact hA q (Nat.le_trans Wd.1.2.2.1 h)
theorem zMt.of {l : Launch} {y : MethodName} {cc : ByteArray} {nL : Nat} {ret : Option FieldType} {d mc ms : Nat} {g : zG} {N : zNs} {ad : Int → Nat} {av : List Value} {M F : zMem} {post : Option Value → zMem → zMem → Prop} (own : String) (hown : y.cls = own) (hy : plainName y.cls = true) (hlen : (lg_sl av).length ≤ nL)
    (body : ∀ {p : Program} {e : Env} {s : State} {m : MethodId} {args : Array Value} {below : List Frame} {meth : Method} {c : Code} {ls : Array Slot}, zC g (zA N ad s.heap.size) p s m args c cc nL own → zW g (zA N ad s.heap.size) s.heap N ad M F s.heap [] → lv_has ls nL (lv_args 0 av) → meth.sig.returnType = ret → meth.locks = false → (y.name = "<init>" → meth.name = "<init>") →
      W p l e (zrm d mc ms) s m args below meth c s.heap [] 0 0 (zMQ below g N ad post args s mc ms) (F0 m 0 ls [])) : zMt l y cc nL ret d mc ms g N ad av M F post := by
  intro sz
  refine Met.ofW (cc := cc) (maxL := nL) (ret := ret) hy rfl ?_
  intro p e s m args below meth c s₁ B hml hv
  obtain ⟨rfl, hsz, hP, hK, hD0, hRM, hZ⟩ := hv
  subst hsz
  have hts := atoms_spec (ws := Cond.code y cc nL ret :: zT) B.pre
  have hl := lv_entry av (n := nL) hlen
  rw [lg_entry_eq]
  generalize (lg_sl av ++ List.replicate (nL - (lg_sl av).length) Slot.unset).toArray = ls at hl ⊢
  have hD : va_D (zA N ad s.heap.size) (wl g N ad M F) := hD0.weaken (fun k q hk _ => by
    exact wl_A hk)
  exact body ⟨⟨B.exec, B.bytes, hml, by rw [← hown]; exact findClass_of_methodNamed B.named, fun w hw => hts w (List.mem_cons_of_mem _ hw)⟩, hK, hZ, fun q h => Or.inr h⟩ ⟨⟨hP, hD, va_S.rf⟩, hRM⟩ hl B.returns B.notSynchronized (fun h => by rw [← h]; exact (name_of_methodNamed B.named B.method).1)
def zPi (P : Int → zMem → zMem → Prop) : Option Value → zMem → zMem → Prop := fun v M F => ∃ r, v = some (.int (zI r)) ∧ zR r ∧ P r M F
def zPv (P : zMem → zMem → Prop) : Option Value → zMem → zMem → Prop := fun v M F => v = none ∧ P M F
def zPr (ad : Int → Nat) (P : Int → zMem → zMem → Prop) : Option Value → zMem → zMem → Prop := fun v M F => ∃ r, v = some (.ref (ad r)) ∧ P r M F
def zPe (g : zG) (P : Int → zMem → zMem → Prop) : Option Value → zMem → zMem → Prop := fun v M F => ∃ r, v = some (.ref (g.2.2.2 r)) ∧ P r M F
def zPf (P : UInt32 → zMem → zMem → Prop) : Option Value → zMem → zMem → Prop := fun v M F => ∃ r, v = some (.float r) ∧ P r M F
def zPd (P : UInt64 → zMem → zMem → Prop) : Option Value → zMem → zMem → Prop := fun v M F => ∃ r, v = some (.double r) ∧ P r M F
/-- what a callee's name brings: its words -/
def zKV (y : MethodName) (cc : ByteArray) (nL : Nat) (ret : Option FieldType) (C : String) (n : Nat) : Prop :=
  Cond.code y cc nL ret ∈ zT ∧ Cond.instanceMethod y ∈ zT ∧ Cond.selects C y y ∈ zT ∧ Cond.initialized y.cls ∈ zT ∧ y.cls ≠ "java/lang/invoke/MethodHandle" ∧ y.cls ≠ "java/lang/invoke/VarHandle" ∧ (parseMethodDescriptor y.desc).map (fun d => d.parameters.length) = some n
def zKS (y : MethodName) (cc : ByteArray) (nL : Nat) (ret : Option FieldType) (n : Nat) : Prop :=
  Cond.code y cc nL ret ∈ zT ∧ Cond.static y ∈ zT ∧ Cond.initialized y.cls ∈ zT ∧ y.cls ≠ "java/lang/invoke/MethodHandle" ∧ y.cls ≠ "java/lang/invoke/VarHandle" ∧ (parseMethodDescriptor y.desc).map (fun d => d.parameters.length) = some n
section ZCALL
variable {g : zG} {A : Nat → Prop} {p : Program} {l : Launch} {e : Env} {R : Room} {s : State} {m : MethodId} {args : Array Value} {below : List Frame} {meth : Method} {c : Code} {H : Heap} {locs : List Loc} {cells slots : Nat} {Q : State → Prop}
variable {cc : ByteArray} {nL : Nat} {own : String} {pc : Nat} {N : zNs} {ls : Array Slot} {rest st0 : List Value} {ad : Int → Nat} {M F : zMem}
variable {post : Option Value → zMem → zMem → Prop} {mc ms : Nat} {a : Array Value}
theorem z_call (hr : va_Run p l e R s m args below meth c H locs cells slots mc ms (F0 m pc ls st0) rest (zQ g N ad H.size post a) (zA N ad H.size)) (C0 : zC g A p s m args c cc nL own) (Wd : zW g A s.heap N ad M F H locs)
    (kk : ∀ (v : Option Value) (M' F' : zMem) (H1 : Heap) (locs1 : List Loc), post v M' F' → zW g A s.heap N ad M' F' H1 locs1 → W p l e R s m args below meth c H1 locs1 (cells + mc) (slots + ms) Q (F0 m (pc + 3) ls (v.toList ++ rest))) : W p l e R s m args below meth c H locs cells slots Q (F0 m pc ls st0) := by
  have hsub := zA_sub Wd C0.2.2.2
  intro T hT X
  obtain ⟨v, st₀, t, T', L, h0, X', hL, e1, e2, ⟨⟨v', M', F', hv, hp, hP1, hD1, hR1⟩, hz, hk⟩, st⟩ := hr T hT X
  cases hv
  rw [h0] at hz hk
  obtain ⟨t2, a1, b1⟩ := kk v M' F' T'.heap (locs ++ L) hp ⟨⟨by rw [e1]; exact hP1, hD1.weaken (fun _ q _ h => hsub q.1 h), Nat.le_trans Wd.1.2.2.1 (by rw [e1]; exact hz), fun q h1 h2 => by rw [e1, hk q (Nat.lt_of_lt_of_le h1 Wd.1.2.2.1) (fun z => h2 (hsub q z))]; exact Wd.1.2.2.2.1 q h1 h2, fun q hq => by
      rcases List.mem_append.mp hq with h | h
      · exact Wd.1.2.2.2.2 q h
      · exact hsub _ (hL q h)⟩, hR1⟩ T' rfl X'
  exact ⟨t2, st t2 a1, b1⟩
theorem zPre_of (C0 : zC g A p s m args c cc nL own) (Wd : zW g A s.heap N ad M F H locs) (av : List Value) : ∀ U : State, U.heap = H → s.WarmedH U.vm → va_Pc av (zPre g N ad M F H.size) av.toArray U := by
  intro U hU hW
  subst hU
  exact ⟨rfl, rfl, Wd.1.1, va_K.moved hW.alike C0.2.1, Wd.1.2.1.weaken (fun _ _ _ _ => trivial), Wd.2, zS.pass C0.2.2.1 Wd.1.2.2 hW.alike (fun h => zSb.warm hW h) rfl (zA_sub Wd C0.2.2.2)⟩
theorem z_callB {y : MethodName} {cc' : ByteArray} {nL' : Nat} {ret' : Option FieldType} {d n idx : Nat} (C0 : zC g A p s m args c cc nL own) (hcode : Cond.code y cc' nL' ret' ∈ zT) (hini : Cond.initialized y.cls ∈ zT) (hmh : y.cls ≠ "java/lang/invoke/MethodHandle" ∧ y.cls ≠ "java/lang/invoke/VarHandle" ∧ (parseMethodDescriptor y.desc).map (fun d => d.parameters.length) = some n) (hlink : Cond.methodLink own idx y ∈ zT) (hR : d + 1 ≤ R.frames ∧ 8 + (nL' + 11) + 60 * d ≤ R.locals) : CallB R s args own idx y cc' nL' ret' (Cond.code y cc' nL' ret' :: zT) (zrm d mc ms) mc ms n :=
  callB_of n C0.1.2.2.2.2 (zGoodT hcode) rfl rfl rfl (C0.1.2.2.2.2 _ hini) (C0.1.2.2.2.2 _ hlink) hmh hR
/-- a call of a method on the object at place i -/
theorem z_invV {y : MethodName} {cc' : ByteArray} {nL' : Nat} {ret' : Option FieldType} {d n idx ci Nf : Nat} {i : Int} {C : String} {T : u_T} {fs As : List Value} (C0 : zC g A p s m args c cc nL own) (Wd : zW g A s.heap N ad M F H locs) (hM : zMt l y cc' nL' ret' d mc ms g N ad (.ref (ad i) :: As) M F post) (kv : zKV y cc' nL' ret' C n) (hi : zIn N i) (he : zE g ad i (M i) (F i) = .inr (ci, fs)) (hc : zCl[ci]? = some (C, T, Nf)) (hlink : Cond.methodLink own idx y ∈ zT) (hn : As.length = n) (hsz : ls.size = nL) (hst0 : st0 = As.reverse ++ .ref (ad i) :: rest) (hst : (rest.map fun v => v.category).sum ≤ 8) (hR : d + 1 ≤ R.frames ∧ 8 + (nL' + 11) + 60 * d ≤ R.locals) (hf : cells + mc ≤ R.cells ∧ slots + ms ≤ R.slots) (hdg : decode cc pc = .ok (.invokevirtual idx, 3))
    (kk : ∀ (v : Option Value) (M' F' : zMem) (H1 : Heap) (locs1 : List Loc), post v M' F' → zW g A s.heap N ad M' F' H1 locs1 → W p l e R s m args below meth c H1 locs1 (cells + mc) (slots + ms) Q (F0 m (pc + 3) ls (v.toList ++ rest))) : W p l e R s m args below meth c H locs cells slots Q (F0 m pc ls st0) := by
  obtain ⟨k1, k2, k3, k4, k5, k6, k7⟩ := kv
  exact z_call (va_runV (As := As) (rest := rest) C0.1 (hM H.size) ⟨z_callB C0 k1 k4 ⟨k5, k6, k7⟩ hlink hR, C0.1.2.2.2.2 _ k2, C0.1.2.2.2.2 _ k3⟩ ⟨zPre_blind, va_recv C0.2.1 Wd.1.1 (ci := ci) (q0 := (i - N.1).toNat) hc (by rw [wl_get hi, he]), zPre_of C0 Wd _⟩ rfl hn hsz hst0 (lv_room hst) hdg hf) C0 Wd kk
/-- a call of a static method -/
theorem z_invS {y : MethodName} {cc' : ByteArray} {nL' : Nat} {ret' : Option FieldType} {d n idx : Nat} {As : List Value} (C0 : zC g A p s m args c cc nL own) (Wd : zW g A s.heap N ad M F H locs) (hM : zMt l y cc' nL' ret' d mc ms g N ad As M F post) (kv : zKS y cc' nL' ret' n) (hlink : Cond.methodLink own idx y ∈ zT) (hn : As.length = n) (hsz : ls.size = nL) (hst0 : st0 = As.reverse ++ rest) (hst : (rest.map fun v => v.category).sum ≤ 8) (hR : d + 1 ≤ R.frames ∧ 8 + (nL' + 11) + 60 * d ≤ R.locals) (hf : cells + mc ≤ R.cells ∧ slots + ms ≤ R.slots) (hdg : decode cc pc = .ok (.invokestatic idx, 3))
    (kk : ∀ (v : Option Value) (M' F' : zMem) (H1 : Heap) (locs1 : List Loc), post v M' F' → zW g A s.heap N ad M' F' H1 locs1 → W p l e R s m args below meth c H1 locs1 (cells + mc) (slots + ms) Q (F0 m (pc + 3) ls (v.toList ++ rest))) : W p l e R s m args below meth c H locs cells slots Q (F0 m pc ls st0) := by
  obtain ⟨k1, k2, k3, k4, k5, k6⟩ := kv
  exact z_call (va_runS (As := As) (rest := rest) C0.1 (hM H.size) ⟨z_callB C0 k1 k3 ⟨k4, k5, k6⟩ hlink hR, C0.1.2.2.2.2 _ k2⟩ ⟨zPre_blind, zPre_of C0 Wd _⟩ rfl hn hsz hst0 (lv_room hst) hdg hf) C0 Wd kk
theorem z_ends (C0 : zC g (zA N ad s.heap.size) p s m args c cc nL own) (Wd : zW g (zA N ad s.heap.size) s.heap N ad M F H locs) {v : Option Value} (hp : post v M F) : ∀ t : State, t.heap = H → s.WarmedH t.vm → zQ g N ad s.heap.size post args s (.returned v) t := by
  intro t ht hW
  exact ⟨⟨v, M, F, rfl, hp, by rw [ht]; exact Wd.1.1, Wd.1.2.1, Wd.2⟩, Wd.1.2.2.F ht⟩
theorem z_iret {P : Int → zMem → zMem → Prop} {x : Int} (C0 : zC g (zA N ad s.heap.size) p s m args c cc nL own) (Wd : zW g (zA N ad s.heap.size) s.heap N ad M F H locs) (hr : meth.sig.returnType = some .int) (hlk : meth.locks = false) (hx : zR x) (hp : P x M F) (hdg : decode cc pc = .ok (.ireturn, 1)) : W p l e R s m args below meth c H locs cells slots (zMQ below g N ad (zPi P) args s cells slots) (F0 m pc ls [.int (zI x)]) :=
  W.iret C0.1.1 C0.1.2.1 hr (z_ends C0 Wd ⟨x, rfl, hx, hp⟩) Wd.1.2.2.2.2 hdg hlk
theorem z_zret {P : Int → zMem → zMem → Prop} {x : Int} (C0 : zC g (zA N ad s.heap.size) p s m args c cc nL own) (Wd : zW g (zA N ad s.heap.size) s.heap N ad M F H locs) (hr : meth.sig.returnType = some .boolean) (hlk : meth.locks = false) (hx : x = 0 ∨ x = 1) (hp : P x M F) (hdg : decode cc pc = .ok (.ireturn, 1)) : W p l e R s m args below meth c H locs cells slots (zMQ below g N ad (zPi P) args s cells slots) (F0 m pc ls [.int (zI x)]) :=
  W.zret C0.1.1 C0.1.2.1 hr (by rcases hx with rfl | rfl <;> rfl) (z_ends C0 Wd ⟨x, rfl, by rcases hx with rfl | rfl <;> exact ⟨by decide, by decide⟩, hp⟩) Wd.1.2.2.2.2 hdg hlk
theorem z_vret {P : zMem → zMem → Prop} (C0 : zC g (zA N ad s.heap.size) p s m args c cc nL own) (Wd : zW g (zA N ad s.heap.size) s.heap N ad M F H locs) (hr : meth.sig.returnType = none) (hlk : meth.locks = false) (hp : P M F) (hdg : decode cc pc = .ok (.return_, 1)) : W p l e R s m args below meth c H locs cells slots (zMQ below g N ad (zPv P) args s cells slots) (F0 m pc ls []) :=
  W.vret C0.1.1 C0.1.2.1 hr (z_ends C0 Wd ⟨rfl, hp⟩) Wd.1.2.2.2.2 hdg hlk
theorem z_invVi {P : Int → zMem → zMem → Prop} {y : MethodName} {cc' : ByteArray} {nL' : Nat} {ret' : Option FieldType} {d n idx ci Nf : Nat} {i : Int} {C : String} {T : u_T} {fs As : List Value} (C0 : zC g A p s m args c cc nL own) (Wd : zW g A s.heap N ad M F H locs) (hM : zMt l y cc' nL' ret' d mc ms g N ad (.ref (ad i) :: As) M F (zPi P)) (kv : zKV y cc' nL' ret' C n) (hi : zIn N i) (he : zE g ad i (M i) (F i) = .inr (ci, fs)) (hc : zCl[ci]? = some (C, T, Nf)) (hlink : Cond.methodLink own idx y ∈ zT) (hn : As.length = n) (hsz : ls.size = nL) (hst0 : st0 = As.reverse ++ .ref (ad i) :: rest) (hst : (rest.map fun v => v.category).sum ≤ 8) (hR : d + 1 ≤ R.frames ∧ 8 + (nL' + 11) + 60 * d ≤ R.locals) (hf : cells + mc ≤ R.cells ∧ slots + ms ≤ R.slots) (hdg : decode cc pc = .ok (.invokevirtual idx, 3)) (kk : ∀ (r : Int) (M' F' : zMem) (H1 : Heap) (locs1 : List Loc), zR r → P r M' F' → zW g A s.heap N ad M' F' H1 locs1 → W p l e R s m args below meth c H1 locs1 (cells + mc) (slots + ms) Q (F0 m (pc + 3) ls (.int (zI r) :: rest))) : W p l e R s m args below meth c H locs cells slots Q (F0 m pc ls st0) :=
  z_invV C0 Wd hM kv hi he hc hlink hn hsz hst0 hst hR hf hdg (fun v M' F' H1 locs1 hp hw => by
    obtain ⟨r, rfl, hr, hp⟩ := hp
    exact kk r M' F' H1 locs1 hr hp hw)
theorem z_invVv {P : zMem → zMem → Prop} {y : MethodName} {cc' : ByteArray} {nL' : Nat} {ret' : Option FieldType} {d n idx ci Nf : Nat} {i : Int} {C : String} {T : u_T} {fs As : List Value} (C0 : zC g A p s m args c cc nL own) (Wd : zW g A s.heap N ad M F H locs) (hM : zMt l y cc' nL' ret' d mc ms g N ad (.ref (ad i) :: As) M F (zPv P)) (kv : zKV y cc' nL' ret' C n) (hi : zIn N i) (he : zE g ad i (M i) (F i) = .inr (ci, fs)) (hc : zCl[ci]? = some (C, T, Nf)) (hlink : Cond.methodLink own idx y ∈ zT) (hn : As.length = n) (hsz : ls.size = nL) (hst0 : st0 = As.reverse ++ .ref (ad i) :: rest) (hst : (rest.map fun v => v.category).sum ≤ 8) (hR : d + 1 ≤ R.frames ∧ 8 + (nL' + 11) + 60 * d ≤ R.locals) (hf : cells + mc ≤ R.cells ∧ slots + ms ≤ R.slots) (hdg : decode cc pc = .ok (.invokevirtual idx, 3)) (kk : ∀ (M' F' : zMem) (H1 : Heap) (locs1 : List Loc), P M' F' → zW g A s.heap N ad M' F' H1 locs1 → W p l e R s m args below meth c H1 locs1 (cells + mc) (slots + ms) Q (F0 m (pc + 3) ls (rest))) : W p l e R s m args below meth c H locs cells slots Q (F0 m pc ls st0) :=
  z_invV C0 Wd hM kv hi he hc hlink hn hsz hst0 hst hR hf hdg (fun v M' F' H1 locs1 hp hw => by
    obtain ⟨rfl, hp⟩ := hp
    exact kk M' F' H1 locs1 hp hw)
theorem z_invVr {P : Int → zMem → zMem → Prop} {y : MethodName} {cc' : ByteArray} {nL' : Nat} {ret' : Option FieldType} {d n idx ci Nf : Nat} {i : Int} {C : String} {T : u_T} {fs As : List Value} (C0 : zC g A p s m args c cc nL own) (Wd : zW g A s.heap N ad M F H locs) (hM : zMt l y cc' nL' ret' d mc ms g N ad (.ref (ad i) :: As) M F (zPr ad P)) (kv : zKV y cc' nL' ret' C n) (hi : zIn N i) (he : zE g ad i (M i) (F i) = .inr (ci, fs)) (hc : zCl[ci]? = some (C, T, Nf)) (hlink : Cond.methodLink own idx y ∈ zT) (hn : As.length = n) (hsz : ls.size = nL) (hst0 : st0 = As.reverse ++ .ref (ad i) :: rest) (hst : (rest.map fun v => v.category).sum ≤ 8) (hR : d + 1 ≤ R.frames ∧ 8 + (nL' + 11) + 60 * d ≤ R.locals) (hf : cells + mc ≤ R.cells ∧ slots + ms ≤ R.slots) (hdg : decode cc pc = .ok (.invokevirtual idx, 3)) (kk : ∀ (r : Int) (M' F' : zMem) (H1 : Heap) (locs1 : List Loc), P r M' F' → zW g A s.heap N ad M' F' H1 locs1 → W p l e R s m args below meth c H1 locs1 (cells + mc) (slots + ms) Q (F0 m (pc + 3) ls (.ref (ad r) :: rest))) : W p l e R s m args below meth c H locs cells slots Q (F0 m pc ls st0) :=
  z_invV C0 Wd hM kv hi he hc hlink hn hsz hst0 hst hR hf hdg (fun v M' F' H1 locs1 hp hw => by
    obtain ⟨r, rfl, hp⟩ := hp
    exact kk r M' F' H1 locs1 hp hw)
theorem z_invVe {P : Int → zMem → zMem → Prop} {y : MethodName} {cc' : ByteArray} {nL' : Nat} {ret' : Option FieldType} {d n idx ci Nf : Nat} {i : Int} {C : String} {T : u_T} {fs As : List Value} (C0 : zC g A p s m args c cc nL own) (Wd : zW g A s.heap N ad M F H locs) (hM : zMt l y cc' nL' ret' d mc ms g N ad (.ref (ad i) :: As) M F (zPe g P)) (kv : zKV y cc' nL' ret' C n) (hi : zIn N i) (he : zE g ad i (M i) (F i) = .inr (ci, fs)) (hc : zCl[ci]? = some (C, T, Nf)) (hlink : Cond.methodLink own idx y ∈ zT) (hn : As.length = n) (hsz : ls.size = nL) (hst0 : st0 = As.reverse ++ .ref (ad i) :: rest) (hst : (rest.map fun v => v.category).sum ≤ 8) (hR : d + 1 ≤ R.frames ∧ 8 + (nL' + 11) + 60 * d ≤ R.locals) (hf : cells + mc ≤ R.cells ∧ slots + ms ≤ R.slots) (hdg : decode cc pc = .ok (.invokevirtual idx, 3)) (kk : ∀ (r : Int) (M' F' : zMem) (H1 : Heap) (locs1 : List Loc), P r M' F' → zW g A s.heap N ad M' F' H1 locs1 → W p l e R s m args below meth c H1 locs1 (cells + mc) (slots + ms) Q (F0 m (pc + 3) ls (.ref (g.2.2.2 r) :: rest))) : W p l e R s m args below meth c H locs cells slots Q (F0 m pc ls st0) :=
  z_invV C0 Wd hM kv hi he hc hlink hn hsz hst0 hst hR hf hdg (fun v M' F' H1 locs1 hp hw => by
    obtain ⟨r, rfl, hp⟩ := hp
    exact kk r M' F' H1 locs1 hp hw)
theorem z_invVf {P : UInt32 → zMem → zMem → Prop} {y : MethodName} {cc' : ByteArray} {nL' : Nat} {ret' : Option FieldType} {d n idx ci Nf : Nat} {i : Int} {C : String} {T : u_T} {fs As : List Value} (C0 : zC g A p s m args c cc nL own) (Wd : zW g A s.heap N ad M F H locs) (hM : zMt l y cc' nL' ret' d mc ms g N ad (.ref (ad i) :: As) M F (zPf P)) (kv : zKV y cc' nL' ret' C n) (hi : zIn N i) (he : zE g ad i (M i) (F i) = .inr (ci, fs)) (hc : zCl[ci]? = some (C, T, Nf)) (hlink : Cond.methodLink own idx y ∈ zT) (hn : As.length = n) (hsz : ls.size = nL) (hst0 : st0 = As.reverse ++ .ref (ad i) :: rest) (hst : (rest.map fun v => v.category).sum ≤ 8) (hR : d + 1 ≤ R.frames ∧ 8 + (nL' + 11) + 60 * d ≤ R.locals) (hf : cells + mc ≤ R.cells ∧ slots + ms ≤ R.slots) (hdg : decode cc pc = .ok (.invokevirtual idx, 3)) (kk : ∀ (r : UInt32) (M' F' : zMem) (H1 : Heap) (locs1 : List Loc), P r M' F' → zW g A s.heap N ad M' F' H1 locs1 → W p l e R s m args below meth c H1 locs1 (cells + mc) (slots + ms) Q (F0 m (pc + 3) ls (.float r :: rest))) : W p l e R s m args below meth c H locs cells slots Q (F0 m pc ls st0) :=
  z_invV C0 Wd hM kv hi he hc hlink hn hsz hst0 hst hR hf hdg (fun v M' F' H1 locs1 hp hw => by
    obtain ⟨r, rfl, hp⟩ := hp
    exact kk r M' F' H1 locs1 hp hw)
theorem z_invVd {P : UInt64 → zMem → zMem → Prop} {y : MethodName} {cc' : ByteArray} {nL' : Nat} {ret' : Option FieldType} {d n idx ci Nf : Nat} {i : Int} {C : String} {T : u_T} {fs As : List Value} (C0 : zC g A p s m args c cc nL own) (Wd : zW g A s.heap N ad M F H locs) (hM : zMt l y cc' nL' ret' d mc ms g N ad (.ref (ad i) :: As) M F (zPd P)) (kv : zKV y cc' nL' ret' C n) (hi : zIn N i) (he : zE g ad i (M i) (F i) = .inr (ci, fs)) (hc : zCl[ci]? = some (C, T, Nf)) (hlink : Cond.methodLink own idx y ∈ zT) (hn : As.length = n) (hsz : ls.size = nL) (hst0 : st0 = As.reverse ++ .ref (ad i) :: rest) (hst : (rest.map fun v => v.category).sum ≤ 8) (hR : d + 1 ≤ R.frames ∧ 8 + (nL' + 11) + 60 * d ≤ R.locals) (hf : cells + mc ≤ R.cells ∧ slots + ms ≤ R.slots) (hdg : decode cc pc = .ok (.invokevirtual idx, 3)) (kk : ∀ (r : UInt64) (M' F' : zMem) (H1 : Heap) (locs1 : List Loc), P r M' F' → zW g A s.heap N ad M' F' H1 locs1 → W p l e R s m args below meth c H1 locs1 (cells + mc) (slots + ms) Q (F0 m (pc + 3) ls (.double r :: rest))) : W p l e R s m args below meth c H locs cells slots Q (F0 m pc ls st0) :=
  z_invV C0 Wd hM kv hi he hc hlink hn hsz hst0 hst hR hf hdg (fun v M' F' H1 locs1 hp hw => by
    obtain ⟨r, rfl, hp⟩ := hp
    exact kk r M' F' H1 locs1 hp hw)
theorem z_invSi {P : Int → zMem → zMem → Prop} {y : MethodName} {cc' : ByteArray} {nL' : Nat} {ret' : Option FieldType} {d n idx : Nat} {As : List Value} (C0 : zC g A p s m args c cc nL own) (Wd : zW g A s.heap N ad M F H locs) (hM : zMt l y cc' nL' ret' d mc ms g N ad As M F (zPi P)) (kv : zKS y cc' nL' ret' n) (hlink : Cond.methodLink own idx y ∈ zT) (hn : As.length = n) (hsz : ls.size = nL) (hst0 : st0 = As.reverse ++ rest) (hst : (rest.map fun v => v.category).sum ≤ 8) (hR : d + 1 ≤ R.frames ∧ 8 + (nL' + 11) + 60 * d ≤ R.locals) (hf : cells + mc ≤ R.cells ∧ slots + ms ≤ R.slots) (hdg : decode cc pc = .ok (.invokestatic idx, 3)) (kk : ∀ (r : Int) (M' F' : zMem) (H1 : Heap) (locs1 : List Loc), zR r → P r M' F' → zW g A s.heap N ad M' F' H1 locs1 → W p l e R s m args below meth c H1 locs1 (cells + mc) (slots + ms) Q (F0 m (pc + 3) ls (.int (zI r) :: rest))) : W p l e R s m args below meth c H locs cells slots Q (F0 m pc ls st0) :=
  z_invS C0 Wd hM kv hlink hn hsz hst0 hst hR hf hdg (fun v M' F' H1 locs1 hp hw => by
    obtain ⟨r, rfl, hr, hp⟩ := hp
    exact kk r M' F' H1 locs1 hr hp hw)
theorem z_invSv {P : zMem → zMem → Prop} {y : MethodName} {cc' : ByteArray} {nL' : Nat} {ret' : Option FieldType} {d n idx : Nat} {As : List Value} (C0 : zC g A p s m args c cc nL own) (Wd : zW g A s.heap N ad M F H locs) (hM : zMt l y cc' nL' ret' d mc ms g N ad As M F (zPv P)) (kv : zKS y cc' nL' ret' n) (hlink : Cond.methodLink own idx y ∈ zT) (hn : As.length = n) (hsz : ls.size = nL) (hst0 : st0 = As.reverse ++ rest) (hst : (rest.map fun v => v.category).sum ≤ 8) (hR : d + 1 ≤ R.frames ∧ 8 + (nL' + 11) + 60 * d ≤ R.locals) (hf : cells + mc ≤ R.cells ∧ slots + ms ≤ R.slots) (hdg : decode cc pc = .ok (.invokestatic idx, 3)) (kk : ∀ (M' F' : zMem) (H1 : Heap) (locs1 : List Loc), P M' F' → zW g A s.heap N ad M' F' H1 locs1 → W p l e R s m args below meth c H1 locs1 (cells + mc) (slots + ms) Q (F0 m (pc + 3) ls (rest))) : W p l e R s m args below meth c H locs cells slots Q (F0 m pc ls st0) :=
  z_invS C0 Wd hM kv hlink hn hsz hst0 hst hR hf hdg (fun v M' F' H1 locs1 hp hw => by
    obtain ⟨rfl, hp⟩ := hp
    exact kk M' F' H1 locs1 hp hw)
theorem z_invSr {P : Int → zMem → zMem → Prop} {y : MethodName} {cc' : ByteArray} {nL' : Nat} {ret' : Option FieldType} {d n idx : Nat} {As : List Value} (C0 : zC g A p s m args c cc nL own) (Wd : zW g A s.heap N ad M F H locs) (hM : zMt l y cc' nL' ret' d mc ms g N ad As M F (zPr ad P)) (kv : zKS y cc' nL' ret' n) (hlink : Cond.methodLink own idx y ∈ zT) (hn : As.length = n) (hsz : ls.size = nL) (hst0 : st0 = As.reverse ++ rest) (hst : (rest.map fun v => v.category).sum ≤ 8) (hR : d + 1 ≤ R.frames ∧ 8 + (nL' + 11) + 60 * d ≤ R.locals) (hf : cells + mc ≤ R.cells ∧ slots + ms ≤ R.slots) (hdg : decode cc pc = .ok (.invokestatic idx, 3)) (kk : ∀ (r : Int) (M' F' : zMem) (H1 : Heap) (locs1 : List Loc), P r M' F' → zW g A s.heap N ad M' F' H1 locs1 → W p l e R s m args below meth c H1 locs1 (cells + mc) (slots + ms) Q (F0 m (pc + 3) ls (.ref (ad r) :: rest))) : W p l e R s m args below meth c H locs cells slots Q (F0 m pc ls st0) :=
  z_invS C0 Wd hM kv hlink hn hsz hst0 hst hR hf hdg (fun v M' F' H1 locs1 hp hw => by
    obtain ⟨r, rfl, hp⟩ := hp
    exact kk r M' F' H1 locs1 hp hw)
theorem z_invSe {P : Int → zMem → zMem → Prop} {y : MethodName} {cc' : ByteArray} {nL' : Nat} {ret' : Option FieldType} {d n idx : Nat} {As : List Value} (C0 : zC g A p s m args c cc nL own) (Wd : zW g A s.heap N ad M F H locs) (hM : zMt l y cc' nL' ret' d mc ms g N ad As M F (zPe g P)) (kv : zKS y cc' nL' ret' n) (hlink : Cond.methodLink own idx y ∈ zT) (hn : As.length = n) (hsz : ls.size = nL) (hst0 : st0 = As.reverse ++ rest) (hst : (rest.map fun v => v.category).sum ≤ 8) (hR : d + 1 ≤ R.frames ∧ 8 + (nL' + 11) + 60 * d ≤ R.locals) (hf : cells + mc ≤ R.cells ∧ slots + ms ≤ R.slots) (hdg : decode cc pc = .ok (.invokestatic idx, 3)) (kk : ∀ (r : Int) (M' F' : zMem) (H1 : Heap) (locs1 : List Loc), P r M' F' → zW g A s.heap N ad M' F' H1 locs1 → W p l e R s m args below meth c H1 locs1 (cells + mc) (slots + ms) Q (F0 m (pc + 3) ls (.ref (g.2.2.2 r) :: rest))) : W p l e R s m args below meth c H locs cells slots Q (F0 m pc ls st0) :=
  z_invS C0 Wd hM kv hlink hn hsz hst0 hst hR hf hdg (fun v M' F' H1 locs1 hp hw => by
    obtain ⟨r, rfl, hp⟩ := hp
    exact kk r M' F' H1 locs1 hp hw)
theorem z_invSf {P : UInt32 → zMem → zMem → Prop} {y : MethodName} {cc' : ByteArray} {nL' : Nat} {ret' : Option FieldType} {d n idx : Nat} {As : List Value} (C0 : zC g A p s m args c cc nL own) (Wd : zW g A s.heap N ad M F H locs) (hM : zMt l y cc' nL' ret' d mc ms g N ad As M F (zPf P)) (kv : zKS y cc' nL' ret' n) (hlink : Cond.methodLink own idx y ∈ zT) (hn : As.length = n) (hsz : ls.size = nL) (hst0 : st0 = As.reverse ++ rest) (hst : (rest.map fun v => v.category).sum ≤ 8) (hR : d + 1 ≤ R.frames ∧ 8 + (nL' + 11) + 60 * d ≤ R.locals) (hf : cells + mc ≤ R.cells ∧ slots + ms ≤ R.slots) (hdg : decode cc pc = .ok (.invokestatic idx, 3)) (kk : ∀ (r : UInt32) (M' F' : zMem) (H1 : Heap) (locs1 : List Loc), P r M' F' → zW g A s.heap N ad M' F' H1 locs1 → W p l e R s m args below meth c H1 locs1 (cells + mc) (slots + ms) Q (F0 m (pc + 3) ls (.float r :: rest))) : W p l e R s m args below meth c H locs cells slots Q (F0 m pc ls st0) :=
  z_invS C0 Wd hM kv hlink hn hsz hst0 hst hR hf hdg (fun v M' F' H1 locs1 hp hw => by
    obtain ⟨r, rfl, hp⟩ := hp
    exact kk r M' F' H1 locs1 hp hw)
theorem z_invSd {P : UInt64 → zMem → zMem → Prop} {y : MethodName} {cc' : ByteArray} {nL' : Nat} {ret' : Option FieldType} {d n idx : Nat} {As : List Value} (C0 : zC g A p s m args c cc nL own) (Wd : zW g A s.heap N ad M F H locs) (hM : zMt l y cc' nL' ret' d mc ms g N ad As M F (zPd P)) (kv : zKS y cc' nL' ret' n) (hlink : Cond.methodLink own idx y ∈ zT) (hn : As.length = n) (hsz : ls.size = nL) (hst0 : st0 = As.reverse ++ rest) (hst : (rest.map fun v => v.category).sum ≤ 8) (hR : d + 1 ≤ R.frames ∧ 8 + (nL' + 11) + 60 * d ≤ R.locals) (hf : cells + mc ≤ R.cells ∧ slots + ms ≤ R.slots) (hdg : decode cc pc = .ok (.invokestatic idx, 3)) (kk : ∀ (r : UInt64) (M' F' : zMem) (H1 : Heap) (locs1 : List Loc), P r M' F' → zW g A s.heap N ad M' F' H1 locs1 → W p l e R s m args below meth c H1 locs1 (cells + mc) (slots + ms) Q (F0 m (pc + 3) ls (.double r :: rest))) : W p l e R s m args below meth c H locs cells slots Q (F0 m pc ls st0) :=
  z_invS C0 Wd hM kv hlink hn hsz hst0 hst hR hf hdg (fun v M' F' H1 locs1 hp hw => by
    obtain ⟨r, rfl, hp⟩ := hp
    exact kk r M' F' H1 locs1 hp hw)
end ZCALL
