/-! worlds as lists of cells: for constructors -/
def rW (g : zG) (A : Nat → Prop) (H0 : Heap) (ws : va_W) (H : Heap) (locs : List Loc) : Prop := va_P (g.1, g.2.1) zCl ws H ∧ va_D A ws ∧ va_S A H0 H locs
def rPre (g : zG) (ws : va_W) (sz : Nat) (U : State) : Prop :=
  U.heap.size = sz ∧ va_P (g.1, g.2.1) zCl ws U.heap ∧ va_K (g.1, g.2.1) zCl (zty g) U ∧ va_D (fun _ => True) ws ∧ (∀ C ∈ zAOs, va_AO C U) ∧ zS g (va_A ws sz) U U.heap
def rQ (g : zG) (ws : va_W) (sz : Nat) (post : Option Value → va_W → Prop) : Array Value → State → Outcome → State → Prop := fun _ st o t =>
  (∃ (v : Option Value) (w1 : va_W), o = .returned v ∧ post v w1 ∧ va_P (g.1, g.2.1) zCl w1 t.heap ∧ va_D (va_A ws sz) w1) ∧ va_F (va_A ws sz) st t
def rMt (l : Launch) (y : MethodName) (cc : ByteArray) (nL : Nat) (ret : Option FieldType) (d mc ms : Nat) (g : zG) (av : List Value) (ws : va_W) (post : Option Value → va_W → Prop) : Prop :=
  ∀ sz, Met l y (Cond.code y cc nL ret :: zT) (zrm d mc ms) (va_Pc av (rPre g ws sz)) (rQ g ws sz post) mc ms (va_A ws sz)
abbrev rMQ (below : List Frame) (g : zG) (ws : va_W) (post : Option Value → va_W → Prop) (args : Array Value) (s : State) (mc ms : Nat) : State → Prop := MQ below (rQ g ws s.heap.size post) args s mc ms (va_A ws s.heap.size)
theorem rPre_blind {g : zG} {ws : va_W} {sz : Nat} {av : List Value} : FrameBlind (va_Pc av (rPre g ws sz)) := by
  intro a U fr mk q
  obtain ⟨q0, q1, q2, q3, q4, q5, q6⟩ := q
  refine ⟨q0, q1, q2, va_K.moved (u := U) (U := U.calling fr mk a) (Vm.Alike.refl U.vm) q3, q4, fun C hC => va_AO.moved (u := U) (U := U.calling fr mk a) (Vm.Alike.refl U.vm) (q5 C hC), ?_⟩
  exact zS.pass (s := U) (U := U.calling fr mk a) q6 (va_S.rf) (Vm.Alike.refl U.vm) (fun h => zSb.same rfl h) rfl (fun _ h => h)
theorem rA_sub {g : zG} {A : Nat → Prop} {H0 : Heap} {wr wc : va_W} {H : Heap} {locs : List Loc} (Wd : rW g A H0 (wr ++ wc) H locs) (hA : ∀ q, H0.size ≤ q → A q) : ∀ q, va_A wc H.size q → A q := by
  intro q h
  rcases h with ⟨k, e, h⟩ | h
  · exact Wd.2.1.2 (wr.length + k) (q, e) (by rw [List.getElem?_append_right (by omega), show wr.length + k - wr.length = k by omega]; exact h)
  · exact hA q (Nat.le_trans Wd.2.2.1 h)
theorem rMt.of {l : Launch} {y : MethodName} {cc : ByteArray} {nL : Nat} {ret : Option FieldType} {d mc ms : Nat} {g : zG} {av : List Value} {ws : va_W} {post : Option Value → va_W → Prop} (own : String) (hown : y.cls = own) (hy : plainName y.cls = true) (hlen : (lg_sl av).length ≤ nL)
    (body : ∀ {p : Program} {e : Env} {s : State} {m : MethodId} {args : Array Value} {below : List Frame} {meth : Method} {c : Code} {ls : Array Slot}, zC g (va_A ws s.heap.size) p s m args c cc nL own → rW g (va_A ws s.heap.size) s.heap ws s.heap [] → lv_has ls nL (lv_args 0 av) → meth.sig.returnType = ret → meth.locks = false → (y.name = "<init>" → meth.name = "<init>") → (∀ C ∈ zAOs, va_AO C s) →
      W p l e (zrm d mc ms) s m args below meth c s.heap [] 0 0 (rMQ below g ws post args s mc ms) (F0 m 0 ls [])) : rMt l y cc nL ret d mc ms g av ws post := by
  intro sz
  refine Met.ofW (cc := cc) (maxL := nL) (ret := ret) hy rfl ?_
  intro p e s m args below meth c s₁ B hml hv
  obtain ⟨rfl, hsz, hP, hK, hD0, hAO, hZ⟩ := hv
  subst hsz
  have hts := atoms_spec (ws := Cond.code y cc nL ret :: zT) B.pre
  have hl := lv_entry av (n := nL) hlen
  rw [lg_entry_eq]
  generalize (lg_sl av ++ List.replicate (nL - (lg_sl av).length) Slot.unset).toArray = ls at hl ⊢
  have hD : va_D (va_A ws s.heap.size) ws := hD0.self
  exact body ⟨⟨B.exec, B.bytes, hml, by rw [← hown]; exact findClass_of_methodNamed B.named, fun w hw => hts w (List.mem_cons_of_mem _ hw)⟩, hK, hZ, fun q h => Or.inr h⟩ ⟨hP, hD, va_S.rf⟩ hl B.returns B.notSynchronized (fun h => by rw [← h]; exact (name_of_methodNamed B.named B.method).1) hAO
theorem r_join {A0 : Nat → Prop} {D : va_G} {cl : List vw_C} {wr wc w1 : va_W} {H H1 : Heap} (hP : va_P D cl (wr ++ wc) H) (hD : va_D A0 (wr ++ wc)) (hk : ∀ q : Nat, q < H.size → ¬ va_A wc H.size q → H1[q]? = H[q]?) (hF : ∀ q, va_A wc H.size q → A0 q) (hP1 : va_P D cl w1 H1) (hD1 : va_D (va_A wc H.size) w1) : va_P D cl (wr ++ w1) H1 ∧ va_D A0 (wr ++ w1) := by
  have at0 : ∀ (k : Nat) (q : Nat × va_E), wr[k]? = some q → (wr ++ wc)[k]? = some q := fun k q hq => by
    rw [List.getElem?_append_left (List.getElem?_eq_some_iff.mp hq).1]
    exact hq
  have apart : ∀ (k : Nat) (q : Nat × va_E), wr[k]? = some q → q.1 < H.size ∧ ¬ va_A wc H.size q.1 := by
    intro k q hq
    have hl := (hP k q (at0 k q hq)).lt
    have hk0 := (List.getElem?_eq_some_iff.mp hq).1
    refine ⟨hl, fun h => ?_⟩
    rcases h with ⟨k2, e, h⟩ | h
    · have h4 : (wr ++ wc)[wr.length + k2]? = some (q.1, e) := by
        rw [List.getElem?_append_right (by omega), show wr.length + k2 - wr.length = k2 by omega]
        exact h
      have hij := hD.1 k (wr.length + k2) q (q.1, e) (at0 k q hq) h4 rfl
      omega
    · omega
  refine ⟨va_P.app (va_P.kept (fun k q hq => hP k q (at0 k q hq)) (fun k q hq => hk q.1 (apart k q hq).1 (apart k q hq).2)) hP1, va_D.app ⟨fun i j x y hx hy e => hD.1 i j x y (at0 i x hx) (at0 j y hy) e, fun k q hq => hD.2 k q (at0 k q hq)⟩ (hD1.weaken (fun _ q _ h => hF q.1 h)) (fun i j x y hx hy e => (apart i x hx).2 (by rw [e]; exact hD1.2 j y hy))⟩
theorem zI_nneg {x : Int} (hn : 0 ≤ x ∧ x < 2147483648) : ¬ zI x < 0 := by
  intro q
  have h := Int32.lt_iff_toInt_lt.mp q
  have z : (0 : Int32).toInt = 0 := by decide
  rw [zI_toInt (by omega) (by omega), z] at h
  omega
section RAW

variable {g : zG} {A : Nat → Prop} {p : Program} {l : Launch} {e : Env} {R : Room} {s : State} {m : MethodId} {args : Array Value} {below : List Frame} {meth : Method} {c : Code} {H : Heap} {locs : List Loc} {cells slots : Nat} {Q : State → Prop}
variable {cc : ByteArray} {nL : Nat} {own : String} {pc : Nat} {ls : Array Slot} {rest st0 : List Value} {ws wc wr : va_W}
variable {post : Option Value → va_W → Prop} {mc ms : Nat} {a : Array Value}

theorem r_call (hr : va_Run p l e R s m args below meth c H locs cells slots mc ms (F0 m pc ls st0) rest (rQ g wc H.size post a) (va_A wc H.size)) (C0 : zC g A p s m args c cc nL own) (Wd : rW g A s.heap (wr ++ wc) H locs)
    (kk : ∀ (v : Option Value) (w1 : va_W) (H1 : Heap) (locs1 : List Loc), post v w1 → rW g A s.heap (wr ++ w1) H1 locs1 → W p l e R s m args below meth c H1 locs1 (cells + mc) (slots + ms) Q (F0 m (pc + 3) ls (v.toList ++ rest))) : W p l e R s m args below meth c H locs cells slots Q (F0 m pc ls st0) := by
  have hsub := rA_sub Wd C0.2.2.2
  intro T hT X
  obtain ⟨v, st₀, t, T', L, h0, X', hL, e1, e2, ⟨⟨v', w1, hv, hp, hP1, hD1⟩, hz, hk⟩, st⟩ := hr T hT X
  cases hv
  rw [h0] at hz hk
  obtain ⟨j1, j2⟩ := r_join Wd.1 Wd.2.1 (H1 := T'.heap) (fun q h1 h2 => by rw [e1]; exact hk q h1 h2) hsub (by rw [e1]; exact hP1) hD1
  obtain ⟨t2, a1, b1⟩ := kk v w1 T'.heap (locs ++ L) hp ⟨j1, j2, Nat.le_trans Wd.2.2.1 (by rw [e1]; exact hz), fun q h1 h2 => by rw [e1, hk q (Nat.lt_of_lt_of_le h1 Wd.2.2.1) (fun z => h2 (hsub q z))]; exact Wd.2.2.2.1 q h1 h2, fun q hq => by
      rcases List.mem_append.mp hq with h | h
      · exact Wd.2.2.2.2 q h
      · exact hsub _ (hL q h)⟩ T' rfl X'
  exact ⟨t2, st t2 a1, b1⟩
theorem rPre_of (C0 : zC g A p s m args c cc nL own) (hAO : ∀ C ∈ zAOs, va_AO C s) (Wd : rW g A s.heap (wr ++ wc) H locs) (av : List Value) : ∀ U : State, U.heap = H → s.WarmedH U.vm → va_Pc av (rPre g wc H.size) av.toArray U := by
  intro U hU hW
  subst hU
  have at1 : ∀ (k : Nat) (q : Nat × va_E), wc[k]? = some q → (wr ++ wc)[wr.length + k]? = some q := fun k q hq => by
    rw [List.getElem?_append_right (by omega), show wr.length + k - wr.length = k by omega]
    exact hq
  refine ⟨rfl, rfl, fun k q hq => Wd.1 _ q (at1 k q hq), va_K.moved hW.alike C0.2.1, ⟨fun i j x y hx hy e => ?_, fun _ _ _ => trivial⟩, fun C hC => va_AO.moved hW.alike (hAO C hC), zS.pass C0.2.2.1 Wd.2.2 hW.alike (fun h => zSb.warm hW h) rfl (rA_sub Wd C0.2.2.2)⟩
  have := Wd.2.1.1 _ _ x y (at1 i x hx) (at1 j y hy) e
  omega
/-- a constructor's words -/
def zKI (y : MethodName) (cc : ByteArray) (nL : Nat) (n : Nat) : Prop :=
  Cond.code y cc nL none ∈ zT ∧ Cond.instanceMethod y ∈ zT ∧ Cond.initialized y.cls ∈ zT ∧ y.cls ≠ "java/lang/invoke/MethodHandle" ∧ y.cls ≠ "java/lang/invoke/VarHandle" ∧ y.name = "<init>" ∧ (parseMethodDescriptor y.desc).map (fun d => d.parameters.length) = some n
theorem r_init {y : MethodName} {cc' : ByteArray} {nL' : Nat} {d n idx b : Nat} {As : List Value} (C0 : zC g A p s m args c cc nL own) (hAO : ∀ C ∈ zAOs, va_AO C s) (Wd : rW g A s.heap (wr ++ wc) H locs) (hM : rMt l y cc' nL' none d mc ms g (.ref b :: As) wc post) (kv : zKI y cc' nL' n) (hlink : Cond.methodLink own idx y ∈ zT) (hn : As.length = n) (hsz : ls.size = nL) (hst0 : st0 = As.reverse ++ .ref b :: rest) (hst : (rest.map fun v => v.category).sum ≤ 8) (hR : d + 1 ≤ R.frames ∧ 8 + (nL' + 11) + 60 * d ≤ R.locals) (hf : cells + mc ≤ R.cells ∧ slots + ms ≤ R.slots) (hdg : decode cc pc = .ok (.invokespecial idx, 3))
    (kk : ∀ (v : Option Value) (w1 : va_W) (H1 : Heap) (locs1 : List Loc), post v w1 → rW g A s.heap (wr ++ w1) H1 locs1 → W p l e R s m args below meth c H1 locs1 (cells + mc) (slots + ms) Q (F0 m (pc + 3) ls (v.toList ++ rest))) : W p l e R s m args below meth c H locs cells slots Q (F0 m pc ls st0) := by
  obtain ⟨k1, k2, k3, k4, k5, k6, k7⟩ := kv
  exact r_call (va_runI (As := As) (rest := rest) C0.1 (hM H.size) ⟨z_callB C0 k1 k3 ⟨k4, k5, k7⟩ hlink hR, k6, C0.1.2.2.2.2 _ k2⟩ ⟨rPre_blind, rPre_of C0 hAO Wd _⟩ rfl hn hsz hst0 (lv_room hst) hdg hf) C0 Wd kk
theorem r_new {ci N idx : Nat} {C : String} {T : u_T} (C0 : zC g A p s m args c cc nL own) (Wd : rW g A s.heap ws H locs) (hin : ∀ w ∈ u_ws C T N, w ∈ zT) (ty : Nat → FieldType) (hty : ∀ k, k < N → parseFieldDescriptor (T k).2.2.1 = some (ty k)) (hlink : Cond.classLink own idx C ∈ zT) (hinst : Cond.instantiable C N ∈ zT) (hini : Cond.initialized C ∈ zT) (hc : zCl[ci]? = some (C, T, N)) {fs : List Value} (hfs : ∀ j, j < N → defaultValue (ty j) = vp_V fs j) (hcells : cells + 1 ≤ R.cells) (hslots : slots + N ≤ R.slots) (hdg : decode cc pc = .ok (.new idx, 3))
    (kk : ∀ (q : Nat) (H1 : Heap), rW g A s.heap (ws ++ [(q, .inr (ci, fs))]) H1 locs → W p l e R s m args below meth c H1 locs (cells + 1) (slots + N) Q (F0 m (pc + 3) ls (.ref q :: rest))) : W p l e R s m args below meth c H locs cells slots Q (F0 m pc ls rest) :=
  va_new C0.1.1 C0.1.2.1 C0.1.2.2.2.2 hin ty hty C0.1.2.2.2.1 (C0.1.2.2.2.2 _ hlink) (C0.1.2.2.2.2 _ hinst) (C0.1.2.2.2.2 _ hini) C0.2.1 Wd.1 Wd.2.1 Wd.2.2 C0.2.2.2 hc hfs hcells hslots hdg (fun q H1 a b c => kk q H1 ⟨a, b, c⟩)
theorem va_RA_one {U : State} {c1 c2 : ClassId} {ty : FieldType} (h1 : va_RA U c1 ty) (h2 : va_RA U c2 ty) : c1 = c2 := by
  cases ty with
  | object C =>
    obtain ⟨_, _, -, -, -, a⟩ := h1
    obtain ⟨_, _, -, -, -, b⟩ := h2
    exact Option.some.inj (a.symm.trans b)
  | _ => exact Option.some.inj (Eq.trans (Eq.symm (show U.vm.findClass _ = some c1 from h1)) (show U.vm.findClass _ = some c2 from h2))
theorem r_newa {atype : ArrayType} {ty : FieldType} {t n : Nat} {cid : ClassId} {a0 : vp_A} (C0 : zC g A p s m args c cc nL own) (Wd : rW g A s.heap ws H locs) (harr : Cond.arrayClass (newarray.typeOf atype) ∈ zT) (hty : newarray.typeOf atype = ty) (hz : (zty g)[t]? = some (cid, ty)) (ha : ∀ cA : ClassId, vp_cell cA a0 = arrV cA n (fun _ => defaultValue ty)) {x : Int} (hn : 0 ≤ x ∧ x < 2147483648) (hx : x.toNat = n) (hbytes : n * componentBytes ty ≤ 536870912) (hcells : cells + 1 ≤ R.cells) (hslots : slots + n ≤ R.slots) (hdg : decode cc pc = .ok (.newarray atype, 2))
    (kk : ∀ (q : Nat) (H1 : Heap), rW g A s.heap (ws ++ [(q, .inl (cid, a0))]) H1 locs → W p l e R s m args below meth c H1 locs (cells + 1) (slots + n) Q (F0 m (pc + 2) ls (.ref q :: rest))) : W p l e R s m args below meth c H locs cells slots Q (F0 m pc ls (.int (zI x) :: rest)) :=
  va_newa C0.1.1 C0.1.2.1 (C0.1.2.2.2.2 _ harr) hty C0.2.1 Wd.1 Wd.2.1 Wd.2.2 C0.2.2.2 ha (zI_nneg hn) (by rw [zI_clamp hn.1 hn.2]; exact hx) hbytes hcells hslots hdg (fun q cA H1 hK a b d => by
    have e : cA = cid := va_RA_one (hK.2 8 (cA, ty) rfl).2 (C0.2.1.2 t _ hz).2
    subst e
    exact kk q H1 ⟨a, b, d⟩)
theorem r_newq {C : String} {idx t n : Nat} {cid : ClassId} (C0 : zC g A p s m args c cc nL own) (hAO : ∀ C ∈ zAOs, va_AO C s) (Wd : rW g A s.heap ws H locs) (hC : C ∈ zAOs) (hlink : Cond.classLink own idx C ∈ zT) (hz : (zty g)[t]? = some (cid, .object C)) {x : Int} (hn : 0 ≤ x ∧ x < 2147483648) (hx : x.toNat = n) (hbytes : n * 4 ≤ 536870912) (hcells : cells + 1 ≤ R.cells) (hslots : slots + n ≤ R.slots) (hdg : decode cc pc = .ok (.anewarray idx, 3))
    (kk : ∀ (q : Nat) (H1 : Heap), rW g A s.heap (ws ++ [(q, .inl (cid, n, .inr (.inr (.inr (.inr (fun _ => none))))))]) H1 locs → W p l e R s m args below meth c H1 locs (cells + 1) (slots + n) Q (F0 m (pc + 3) ls (.ref q :: rest))) : W p l e R s m args below meth c H locs cells slots Q (F0 m pc ls (.int (zI x) :: rest)) :=
  va_newq C0.1.1 C0.1.2.1 C0.1.2.2.2.1 (C0.1.2.2.2.2 _ hlink) (hAO C hC) C0.2.1 Wd.1 Wd.2.1 Wd.2.2 C0.2.2.2 (zI_nneg hn) (by rw [zI_clamp hn.1 hn.2]; exact hx) hbytes hcells hslots hdg (fun q cA H1 hK a b d => by
    have e : cA = cid := va_RA_one (hK.2 8 (cA, .object C) rfl).2 (C0.2.1.2 t _ hz).2
    subst e
    exact kk q H1 ⟨a, b, d⟩)
theorem r_ends (C0 : zC g (va_A ws s.heap.size) p s m args c cc nL own) {w1 : va_W} (Wd : rW g (va_A ws s.heap.size) s.heap w1 H locs) {v : Option Value} (hp : post v w1) : ∀ t : State, t.heap = H → s.WarmedH t.vm → rQ g ws s.heap.size post args s (.returned v) t := by
  intro t ht hW
  exact ⟨⟨v, w1, rfl, hp, by rw [ht]; exact Wd.1, Wd.2.1⟩, Wd.2.2.F ht⟩
theorem r_vret {w1 : va_W} (C0 : zC g (va_A ws s.heap.size) p s m args c cc nL own) (Wd : rW g (va_A ws s.heap.size) s.heap w1 H locs) (hr : meth.sig.returnType = none) (hlk : meth.locks = false) (hp : post none w1) (hdg : decode cc pc = .ok (.return_, 1)) : W p l e R s m args below meth c H locs cells slots (rMQ below g ws post args s cells slots) (F0 m pc ls []) :=
  W.vret C0.1.1 C0.1.2.1 hr (r_ends C0 Wd hp) Wd.2.2.2.2 hdg hlk
theorem r_eq {w1 : va_W} (Wd : rW g A s.heap ws H locs) (h : ws = w1) : rW g A s.heap w1 H locs := by
  rw [← h]
  exact Wd
theorem r_get {ci Nf q0 k idx b : Nat} {ref C : String} {T : u_T} {fs : List Value} {v : Value} (C0 : zC g A p s m args c cc nL own) (Wd : rW g A s.heap ws H locs) (hin : ∀ w ∈ u_ws C T Nf, w ∈ zT) (he : ws[q0]? = some (b, .inr (ci, fs))) (hc : zCl[ci]? = some (C, T, Nf)) (hk : k < Nf) (hlink : Cond.fieldLink own idx ref (T k).2.1 (T k).2.2.1 ∈ zT) (hsame : ∀ x, s.fieldFound? (T k).1 (T k).2.1 (T k).2.2.1 = some x → s.fieldFound? ref (T k).2.1 (T k).2.2.1 = some x) (hv : fs[k]? = some v) (hdg : decode cc pc = .ok (.getfield idx, 3)) (kk : W p l e R s m args below meth c H locs cells slots Q (F0 m (pc + 3) ls (v :: rest))) : W p l e R s m args below meth c H locs cells slots Q (F0 m pc ls (.ref b :: rest)) :=
  va_get C0.1.1 C0.1.2.1 C0.1.2.2.2.2 hin C0.1.2.2.2.1 C0.2.1 Wd.1 q0 he hc k hk (C0.1.2.2.2.2 _ hlink) hsame hv hdg kk
theorem r_putF {ci Nf q0 k idx b : Nat} {ref C : String} {T : u_T} {fs : List Value} {v : Value} (C0 : zC g A p s m args c cc nL own) (Wd : rW g A s.heap ws H locs) (hin : ∀ w ∈ u_ws C T Nf, w ∈ zT) (ty0 : Nat → FieldType) (hty : ∀ k, k < Nf → parseFieldDescriptor (T k).2.2.1 = some (ty0 k)) (hnm : ∀ a, a < Nf → ∀ b, b < Nf → a ≠ b → (T a).2.1 ≠ (T b).2.1) (he : ws[q0]? = some (b, .inr (ci, fs))) (hc : zCl[ci]? = some (C, T, Nf)) (hk : k < Nf) (hlink : Cond.fieldLink own idx ref (T k).2.1 (T k).2.2.1 ∈ zT) (hsame : ∀ x, s.fieldFound? (T k).1 (T k).2.1 (T k).2.2.1 = some x → s.fieldFound? ref (T k).2.1 (T k).2.2.1 = some x) (hfin : (T k).2.2.2 = true) (hi2 : meth.name = "<init>") (hdecl : (T k).1 = own) (hn : narrow (ty0 k) v = v) (hfit : Jvm.fits (ty0 k) v = true) (hl : k < fs.length) (hdg : decode cc pc = .ok (.putfield idx, 3)) (kk : ∀ (H1 : Heap) (locs1 : List Loc), rW g A s.heap (ws.set q0 (b, .inr (ci, fs.set k v))) H1 locs1 → W p l e R s m args below meth c H1 locs1 cells slots Q (F0 m (pc + 3) ls rest)) : W p l e R s m args below meth c H locs cells slots Q (F0 m pc ls (v :: .ref b :: rest)) :=
  va_putF C0.1.1 C0.1.2.1 C0.1.2.2.2.2 hin ty0 hty hnm C0.1.2.2.2.1 C0.2.1 Wd.1 Wd.2.1 Wd.2.2 q0 he hc k hk (C0.1.2.2.2.2 _ hlink) hsame hfin hi2 hdecl (hty k hk) hn hfit hl hdg (fun H1 locs1 a b d => kk H1 locs1 ⟨a, b, d⟩)
theorem r_put {ci Nf q0 k idx b : Nat} {ref C : String} {T : u_T} {fs : List Value} {v : Value} (C0 : zC g A p s m args c cc nL own) (Wd : rW g A s.heap ws H locs) (hin : ∀ w ∈ u_ws C T Nf, w ∈ zT) (ty0 : Nat → FieldType) (hty : ∀ k, k < Nf → parseFieldDescriptor (T k).2.2.1 = some (ty0 k)) (hnm : ∀ a, a < Nf → ∀ b, b < Nf → a ≠ b → (T a).2.1 ≠ (T b).2.1) (he : ws[q0]? = some (b, .inr (ci, fs))) (hc : zCl[ci]? = some (C, T, Nf)) (hk : k < Nf) (hlink : Cond.fieldLink own idx ref (T k).2.1 (T k).2.2.1 ∈ zT) (hsame : ∀ x, s.fieldFound? (T k).1 (T k).2.1 (T k).2.2.1 = some x → s.fieldFound? ref (T k).2.1 (T k).2.2.1 = some x) (hfin : (T k).2.2.2 = false) (hn : narrow (ty0 k) v = v) (hfit : Jvm.fits (ty0 k) v = true) (hl : k < fs.length) (hdg : decode cc pc = .ok (.putfield idx, 3)) (kk : ∀ (H1 : Heap) (locs1 : List Loc), rW g A s.heap (ws.set q0 (b, .inr (ci, fs.set k v))) H1 locs1 → W p l e R s m args below meth c H1 locs1 cells slots Q (F0 m (pc + 3) ls rest)) : W p l e R s m args below meth c H locs cells slots Q (F0 m pc ls (v :: .ref b :: rest)) :=
  va_put C0.1.1 C0.1.2.1 C0.1.2.2.2.2 hin ty0 hty hnm C0.1.2.2.2.1 C0.2.1 Wd.1 Wd.2.1 Wd.2.2 q0 he hc k hk (C0.1.2.2.2.2 _ hlink) hsame hfin (hty k hk) hn hfit hl hdg (fun H1 locs1 a b d => kk H1 locs1 ⟨a, b, d⟩)
theorem r_ast {q0 t qk ci b n v : Nat} {cid : ClassId} {r : vw_C} {vs : List Value} {f : Nat → Option Nat} {x : Int} (C0 : zC g A p s m args c cc nL own) (Wd : rW g A s.heap ws H locs) (ha : ws[q0]? = some (b, .inl (cid, n, .inr (.inr (.inr (.inr f)))))) (ht : (zty g)[t]? = some (cid, .object r.1)) (hv : ws[qk]? = some (v, .inr (ci, vs))) (hc : zCl[ci]? = some r) (h0 : 0 ≤ x) (h1 : x < (n : Int)) (hN : n ≤ 2147483647) (hdg : decode cc pc = .ok (.aastore, 1)) (kk : ∀ (H1 : Heap) (locs1 : List Loc), rW g A s.heap (ws.set q0 (b, .inl (cid, n, .inr (.inr (.inr (.inr (va_up f x.toNat (some v)))))))) H1 locs1 → W p l e R s m args below meth c H1 locs1 cells slots Q (F0 m (pc + 1) ls rest)) : W p l e R s m args below meth c H locs cells slots Q (F0 m pc ls (.ref v :: .int (zI x) :: .ref b :: rest)) :=
  va_astq C0.1.1 C0.1.2.1 C0.2.1 Wd.1 Wd.2.1 Wd.2.2 q0 t qk ci ha ht hv hc (zI_in h0 h1 (by omega)) hdg (fun H1 locs1 a b d => by rw [zI_clamp h0 (by omega)] at a b; exact kk H1 locs1 ⟨a, b, d⟩)
end RAW
