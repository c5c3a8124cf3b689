/-! methods that may throw -/
def zXC (g : zG) (N : zNs) (ad : Int → Nat) (sz : Nat) (px : String → zMem → zMem → Prop) : String → State → State → Prop := fun E st t =>
  (∃ (M F : zMem), px E M F ∧ va_P (g.1, g.2.1) zCl (wl g N ad M F) t.heap ∧ va_D (zA N ad sz) (wl g N ad M F) ∧ zRM M) ∧ va_F (zA N ad sz) st t
def zMx (l : Launch) (y : MethodName) (cc : ByteArray) (nL : Nat) (ret : Option FieldType) (d mc ms : Nat) (g : zG) (N : zNs) (ad : Int → Nat) (av : List Value) (M F : zMem) (post : Option Value → zMem → zMem → Prop) (px : String → zMem → zMem → Prop) : Prop :=
  l.stackTraces = false → ∀ sz, vx_Met l y (Cond.code y cc nL ret :: zT) (zrm d mc ms) (va_Pc av (zPre g N ad M F sz)) (zQ g N ad sz post) (zXC g N ad sz px) mc ms (zA N ad sz)
abbrev zXQ (below : List Frame) (g : zG) (N : zNs) (ad : Int → Nat) (post : Option Value → zMem → zMem → Prop) (px : String → zMem → zMem → Prop) (args : Array Value) (s : State) (mc ms : Nat) : State → Prop := vx_MQ below (zQ g N ad s.heap.size post) (zXC g N ad s.heap.size px) args s mc ms (zA N ad s.heap.size)
theorem zMx.of {l : Launch} {y : MethodName} {cc : ByteArray} {nL : Nat} {ret : Option FieldType} {d mc ms : Nat} {g : zG} {N : zNs} {ad : Int → Nat} {av : List Value} {M F : zMem} {post : Option Value → zMem → zMem → Prop} {px : String → zMem → zMem → Prop} (own : String) (hown : y.cls = own) (hy : plainName y.cls = true) (hlen : (lg_sl av).length ≤ nL)
    (body : ∀ {p : Program} {e : Env} {s : State} {m : MethodId} {args : Array Value} {below : List Frame} {meth : Method} {c : Code} {ls : Array Slot}, zC g (zA N ad s.heap.size) p s m args c cc nL own → zW g (zA N ad s.heap.size) s.heap N ad M F s.heap [] → lv_has ls nL (lv_args 0 av) → meth.sig.returnType = ret → meth.locks = false → (y.name = "<init>" → meth.name = "<init>") → l.stackTraces = false → (∀ x ∈ c.exceptionTable.toList, False) →
      W p l e (zrm d mc ms) s m args below meth c s.heap [] 0 0 (zXQ below g N ad post px args s mc ms) (F0 m 0 ls [])) : zMx l y cc nL ret d mc ms g N ad av M F post px := by
  intro hst sz
  refine vx_ofW (cc := cc) (maxL := nL) (ret := ret) hy rfl ?_
  intro p e s m args below meth c s₁ B hml hno hv
  obtain ⟨rfl, hsz, hP, hK, hD0, hRM, hZ⟩ := hv
  subst hsz
  have hts := atoms_spec (ws := Cond.code y cc nL ret :: zT) B.pre
  have hl := lv_entry av (n := nL) hlen
  rw [lg_entry_eq]
  generalize (lg_sl av ++ List.replicate (nL - (lg_sl av).length) Slot.unset).toArray = ls at hl ⊢
  have hD : va_D (zA N ad s.heap.size) (wl g N ad M F) := hD0.weaken (fun k q hk _ => by
    exact wl_A hk)
  exact body ⟨⟨B.exec, B.bytes, hml, by rw [← hown]; exact findClass_of_methodNamed B.named, fun w hw => hts w (List.mem_cons_of_mem _ hw)⟩, hK, hZ, fun q h => Or.inr h⟩ ⟨⟨hP, hD, va_S.rf⟩, hRM⟩ hl B.returns B.notSynchronized (fun h => by rw [← h]; exact (name_of_methodNamed B.named B.method).1) hst hno
section ZX
variable {g : zG} {A : Nat → Prop} {p : Program} {l : Launch} {e : Env} {R : Room} {s : State} {m : MethodId} {args : Array Value} {below : List Frame} {meth : Method} {c : Code} {H : Heap} {locs : List Loc} {cells slots : Nat} {Q : State → Prop}
variable {cc : ByteArray} {nL : Nat} {own : String} {pc : Nat} {N : zNs} {ls : Array Slot} {rest st0 : List Value} {ad : Int → Nat} {M F : zMem}
variable {post : Option Value → zMem → zMem → Prop} {px : String → zMem → zMem → Prop} {mc ms : Nat} {a : Array Value}
theorem zXC_grow {E : String} (Wd : zW g (zA N ad s.heap.size) s.heap N ad M F H locs) (hp : px E M F) {t : State} (h1 : H.size ≤ t.heap.size) (h2 : ∀ q : Nat, q < H.size → t.heap[q]? = H[q]?) : zXC g N ad s.heap.size px E s t := by
  refine ⟨⟨M, F, hp, Wd.1.1.kept (fun k q hk => h2 _ (vx_lt Wd.1.1 hk)), Wd.1.2.1, Wd.2⟩, Nat.le_trans Wd.1.2.2.1 h1, fun q hq hA => ?_⟩
  rw [h2 q (Nat.lt_of_lt_of_le hq Wd.1.2.2.1)]
  exact Wd.1.2.2.2.1 q hq hA
/-- a method with code that is an instance method is declared -/
theorem z_declares {args : Array Value} {s : State} {y : MethodName} {bs : ByteArray} {n : Nat} {r : Option FieldType} (h1 : (Cond.instanceMethod y).before args s = true) (h2 : (Cond.code y bs n r).before args s = true) : (Cond.declares y).before args s = true := by
  obtain ⟨m, meth, hn, hm, hst, -⟩ := Cond.instanceMethod_spec (show (Cond.instanceMethod y).holds args s none s [] = true from h1)
  obtain ⟨meth', c, hm', -, -, -, -, -, -, hs⟩ := Cond.code_spec hn (show (Cond.code y bs n r).holds args s none s [] = true from h2)
  cases hm.symm.trans hm'
  simp [Cond.before, Cond.holds, Cond.value, hn, hm, hst, hs]
abbrev zRE : List String := ["java/lang/RuntimeException", "java/lang/Exception"]
abbrev zDcl : List Cond := [.declares (Bundle.initS "java/lang/RuntimeException"), .declares (Bundle.initS "java/lang/Exception"), .declares (Bundle.initS Bundle.tN)]
theorem zDcl_at {args : Array Value} {s : State} (h : ∀ w ∈ zT, w.before args s = true) : ∀ w ∈ zDcl, w.before args s = true := by
  intro w hw
  simp only [zDcl, List.mem_cons, List.not_mem_nil, or_false] at hw
  rcases hw with rfl | rfl | rfl
  · exact z_declares (bs := Bundle.six) (n := 2) (r := none) (h _ (by decide +kernel)) (h _ (by decide +kernel))
  · exact z_declares (bs := Bundle.six) (n := 2) (r := none) (h _ (by decide +kernel)) (h _ (by decide +kernel))
  · exact z_declares (bs := LibCode.Throwable.InitS.code) (n := 2) (r := none) (h _ (by decide +kernel)) (h _ (by decide +kernel))
/-- a class that is thrown with a text: its words (its constructor passes the text on by the pool's entry ix) -/
def zAX (own : String) (ic : Nat) (cls : String) (ix : Nat) (rx : ByteArray) : List Cond := (Bundle.ownAtomsX own ic cls ix rx zRE).filter vx_no
def zTh (own : String) (ik ic : Nat) (cls : String) (ix : Nat) (rx : ByteArray) : Prop :=
  Bundle.fit cls = true ∧ Cond.classLink own ik cls ∈ zT ∧ Cond.initialized cls ∈ zT ∧ (∀ w ∈ (zAX own ic cls ix rx).filter goodWord, w ∈ zT) ∧ (∀ w ∈ (zAX own ic cls ix rx).filter (fun w => !goodWord w), w ∈ Cond.castable cls cls :: zDcl) ∧ (cls, cls) ∈ zCas ∧ (∀ w ∈ Cond.classLink own ik cls :: Cond.initialized cls :: zAX own ic cls ix rx, vx_ot w = true) ∧
  decode rx 0 = .ok (.aload_n 0, 1) ∧ decode rx 1 = .ok (.aload_n 1, 1) ∧ decode rx 2 = .ok (.invokespecial ix, 3) ∧ decode rx 5 = .ok (.return_, 1)
theorem zTh_at {ik ic ix : Nat} {cls : String} {rx : ByteArray} (C0 : zC g A p s m args c cc nL own) (h : zTh own ik ic cls ix rx) : ∀ w ∈ zAX own ic cls ix rx, w.before args s = true :=
  vx_hat (fun w hw => C0.1.2.2.2.2 w (h.2.2.2.1 w hw)) h.2.2.2.2.1 (vx_c (va_Nw.use rfl (zc_ca C0 h.2.2.2.2.2.1)) (zDcl_at C0.1.2.2.2.2))
theorem zTh_names : ∀ n ∈ zRE, Bundle.fit n = true := by decide +kernel
set_option maxHeartbeats 1000000 in
/-- the constructor with a text and the throw, whatever pool entry the class's own constructor names (follows Stand.ctorThrowS, which has the entry 7 only) -/
theorem zctorX {W0 : State} {cells slots : Nat} (X : Stand p l e R s m args below meth c W0 locs cells slots) (hexec : p.tables.exec = Jvm.exec) (htr : e.platform.stackTraces = false) {own cls : String} {names : List String} {ic : Nat}
    {ix : Nat} {rx : ByteArray} (x0 : decode rx 0 = .ok (.aload_n 0, 1)) (x1 : decode rx 1 = .ok (.aload_n 1, 1)) (x2 : decode rx 2 = .ok (.invokespecial ix, 3)) (x5 : decode rx 5 = .ok (.return_, 1))
    (hown : s.vm.findClass own = some m.cls) (hcls : Bundle.fit cls = true) (hnames : ∀ n ∈ names, Bundle.fit n = true)
    (h : ∀ a ∈ Bundle.ownAtomsX own ic cls ix rx names, a.before args s = true)
    (hlocs : ∀ x ∈ locs, ∀ cell, s.heap[x.base]? = some cell → cell.vm.isStatics = false)
    {a : Addr} {cX : ClassId} {kX : Class} (hfoundX : s.vm.findClass cls = some cX) (hkX : s.vm.classes[cX]? = some kX) (hcell : W0.heap[a]? = some (freshCell cX kX)) (hnew : s.heap.size ≤ a)
    {msg : Value} (hmsg : msg.isRef = true)
    {f : JFrame} (hg : f.method = m) (hsize : f.locals.size = c.maxLocals) (hlocked : f.locked = none) (hentered : f.entered = []) {rest : List Value} (hstack : f.stack = msg :: .ref a :: .ref a :: rest)
    (hd6 : decode c.code f.pc = .ok (.invokespecial ic, 3)) (hd9 : decode c.code (f.pc + 3) = .ok (.athrow, 1)) (hout : ∀ x ∈ c.exceptionTable.toList, covers x (f.pc + 3) = false)
    (hRframes : names.length + 3 < R.frames) (hRlocals : 2 * f.monitorRoom + ((Value.ref a :: rest).map fun v => v.category).sum + (13 * (names.length + 1) + 42) ≤ R.locals) (hlocks : meth.locks = false) :
    ∃ U : State, Steps p.tables e below (W0.setTop f) U ∧ U.status = .running ∧ Ended U below (.threw a) ∧ s.WarmedH U.vm ∧ s.sameButNew ({ U with vm := s.vm } : State) locs cells slots ∧
      ∃ ce, U.heap[a]? = some ce ∧ s.vm.findClass cls = some ce.cls ∧ ce.vm = .none := by
  have howns : e.platform.frameOwnsMonitors = true := by rw [X.admits.platform]
  have hfin : e.platform.finalization = false := by rw [X.admits.platform]
  have hpl : e.platform.magicAccessors = ({} : Platform).magicAccessors := by rw [X.admits.platform]
  have at' : ∀ w, w ∈ Bundle.ownAtomsX own ic cls ix rx names → w.holds args s none s [] = true := fun w hw => h w hw
  obtain ⟨T, Z0, L, -, Y⟩ := ThrowableC.of_atoms (args := args) howns hfin hpl (fun w hw => h w (by simp [Bundle.ownAtomsX, hw]))
  obtain ⟨Z, Ms, LZ, LM, hnZ⟩ := Init0T.ofS_atoms (args := args) hpl L Y (fun w hw => h w (by simp [Bundle.ownAtomsX, hw]))
  obtain ⟨P1, Ps, hlen, L1, hL, hP1m, hlink1, hlink⟩ := Bundle.chainSX (args := args) hpl hnZ x0 x1 x2 x5 names cls hcls hnames (fun w hw => h w (by simp [Bundle.ownAtomsX, hw]))
  have hfound : s.vm.findClass cls = some P1.m.cls := findClass_of_methodNamed hP1m
  cases Option.some.inj (hfoundX.symm.trans hfound)
  obtain ⟨c1, kX', hc1, hk, hord, -, -, hn6⟩ := Cond.instantiable_spec (at' (.instantiable cls 6) (by simp [Bundle.ownAtomsX]))
  cases Option.some.inj (hc1.symm.trans hfound)
  cases Option.some.inj (hkX.symm.trans hk)
  have hsel0 : selectMethod e.platform s.vm P1.m.cls T.fill0 = .method T.fill0 := by
    obtain ⟨c2, r2, m2, q1, q2, q3, q4, -⟩ := Cond.selects_spec (at' (.selects cls Bundle.tFill0 Bundle.tFill0) (by simp [Bundle.ownAtomsX]))
    cases Option.some.inj (q1.symm.trans hfound)
    cases Option.some.inj (q2.symm.trans (State.methodFound?_of_named Y.fill0 (by decide)))
    cases Option.some.inj (q3.symm.trans Y.fill0)
    rw [Launch.admits_selectMethod X.admits]
    exact q4
  have hselF : selectMethod e.platform s.vm P1.m.cls T.fill = .method T.fill := by
    obtain ⟨c2, r2, m2, q1, q2, q3, q4, -⟩ := Cond.selects_spec (at' (.selects cls Bundle.tFill Bundle.tFill) (by simp [Bundle.ownAtomsX]))
    cases Option.some.inj (q1.symm.trans hfound)
    cases Option.some.inj (q2.symm.trans (State.methodFound?_of_named Y.fill (by decide)))
    cases Option.some.inj (q3.symm.trans Y.fill)
    rw [Launch.admits_selectMethod X.admits]
    exact q4
  obtain ⟨cellS0, hcS0, hiss⟩ := Y.statics
  obtain ⟨u0, hu0⟩ := Cond.staticRefV Y.unassigned L.unassignedStatic L.statics hcS0 hiss (at' (.isRef (.static Bundle.tN "UNASSIGNED_STACK" Bundle.steD)) (by simp [Bundle.ownAtomsX]))
  obtain ⟨sen, hsen⟩ := Cond.staticRefV Y.sentinel L.sentinelStatic L.statics hcS0 hiss (at' (.isRef (.static Bundle.tN "SUPPRESSED_SENTINEL" Bundle.listD)) (by simp [Bundle.ownAtomsX]))
  obtain ⟨ci198, i198, fB, hk198, hg198, ha198, hsB, -, hnB, htB, hffB⟩ := Cond.ownField (t := .object "java/lang/Object") Y.found L.cls (by decide +kernel) (at' (.fieldLink Bundle.tN 198 Bundle.tN "backtrace" "Ljava/lang/Object;") (by simp [Bundle.ownAtomsX])) (at' (.lays Bundle.tN Bundle.tN "backtrace" "Ljava/lang/Object;") (by simp [Bundle.ownAtomsX])) e.platform hpl
  obtain ⟨cellS, hcS', heS, -, hkeep⟩ := X.same.2.2.2.2.2 T.aS cellS0 hcS0
  have hcellS : W0.heap[T.aS]? = some cellS := hcS'
  have hout' : ∀ i, (⟨T.aS, i⟩ : Loc) ∉ locs := fun i hmem => by
    have h9 := hlocs _ hmem cellS0 hcS0
    rw [hiss] at h9
    cases h9
  have hknownS : cellS.vm ≠ .unknown := by
    rw [heS]
    intro hu
    rw [show cellS0.vm = .unknown from hu] at hiss
    cases hiss
  have hneS : T.aS ≠ a := Nat.ne_of_lt (Nat.lt_of_lt_of_le (Array.getElem?_eq_some_iff.mp hcS0).1 hnew)
  obtain ⟨iM, hffM⟩ := Y.msg
  obtain ⟨tyC, dC, hdC, hdnC⟩ := Cond.laysAt hfound hk Y.cause (at' (.lays cls Bundle.tN "cause" "Ljava/lang/Throwable;") (by simp [Bundle.ownAtomsX]))
  obtain ⟨tyS, dS, hdS, hdnS⟩ := Cond.laysAt hfound hk Y.stack (at' (.lays cls Bundle.tN "stackTrace" Bundle.steD) (by simp [Bundle.ownAtomsX]))
  obtain ⟨tyP, dP, hdP, hdnP⟩ := Cond.laysAt hfound hk Y.supp (at' (.lays cls Bundle.tN "suppressedExceptions" Bundle.listD) (by simp [Bundle.ownAtomsX]))
  obtain ⟨tyM, dM, hdM, hdnM⟩ := Cond.laysAt hfound hk hffM (at' (.lays cls Bundle.tN "detailMessage" "Ljava/lang/String;") (by simp [Bundle.ownAtomsX]))
  obtain ⟨tyB, dB, hdB, hdnB⟩ := Cond.laysAt hfound hk hffB (at' (.lays cls Bundle.tN "backtrace" "Ljava/lang/Object;") (by simp [Bundle.ownAtomsX]))
  have bC := Cond.laysApart hdB hdC hdnB hdnC (by rw [hnB, Y.causeName]; decide)
  have bS := Cond.laysApart hdB hdS hdnB hdnS (by rw [hnB, Y.stackName]; decide)
  have bP := Cond.laysApart hdB hdP hdnB hdnP (by rw [hnB, Y.suppName]; decide)
  have hskip : SkipFacts T e.platform s (fun u => u) u0 ((preparedCellV T.toThrowableT (freshCell P1.m.cls kX) a u0 sen).withEntry W0.cur) :=
    ⟨{ ci198 := ci198, i198 := i198, fBack := fB }, ⟨hk198, hg198, ha198, hsB⟩, by
      have h9 := fresh_default (c := P1.m.cls) tyB
      rw [htB] at h9
      simpa [preparedCellV, Cell.setSlot, Cell.withEntry, Array.getElem?_setIfInBounds, bC, bS, bP, bC.symm, bS.symm, bP.symm, defaultValue] using h9, fun _ _ => rfl⟩
  obtain ⟨tm, methC, cdC, kC, vm₁, hnC, -, -, -, -, -, -, -, hW₁, st1⟩ := Steps.initColdS (tb := p.tables) (e := e) (below := below) (s := s) (U := W0) X.here hexec X.warmed hpl hown (t := Bundle.initS cls) rfl rfl (Bundle.fit_spec hcls).2
    (at' (.methodLink own ic (Bundle.initS cls)) (by simp [Bundle.ownAtomsX])) (h (.instanceMethod (Bundle.initS cls)) (by cases names <;> simp [Bundle.ownAtomsX, Bundle.chainSAtomsX, Bundle.passSAtoms])) (bytes := rx) (maxL := 2) (h (.code (Bundle.initS cls) rx 2 none) (by cases names <;> simp [Bundle.ownAtomsX, Bundle.chainSAtomsX, Bundle.passSAtoms]))
    (f := f) hg (a := a) (msg := msg) (rest := .ref a :: rest) hstack hd6
  cases Option.some.inj (hnC.symm.trans hP1m)
  have X₁ := X.noted hW₁
  obtain ⟨vm₂, X₂, st2⟩ := X₁.ctorMessageOffV hexec (g := { f with stack := .ref a :: rest }) hg hsize T L Z LZ Ms LM (P1 :: Ps)
    (fun P hP => by rcases List.mem_cons.mp hP with rfl | hP; exact L1; exact hL P hP) ⟨hlink1, hlink⟩ (u0 := u0) (sen := sen) (self := a) hmsg (cell := freshCell P1.m.cls kX) (cellS := cellS)
    hcell (fun _ => by simp) (by simp) rfl rfl hsel0 hselF hcellS hneS hknownS (by rw [hkeep _ (hout' _)]; exact hu0) (by rw [hkeep _ (hout' _)]; exact hsen)
    (Takes.of_laid hk hord tyC (by rw [Y.causeType]; rfl)) (Takes.of_laid hk hord tyS (by rw [Y.stackType]; exact fits_refV_array _ u0)) (Takes.of_laid hk hord tyP (by rw [Y.suppType]; exact fits_refV_object _ sen))
    (Takes.of_laid hk hord tyM (by rw [Y.msgType]; exact fits_refV_object _ ⟨msg, hmsg⟩)) Y.objLocals hskip htr [] hd6
    (by simp only [List.length_cons, hlen]; omega) (by simp only [List.length_cons, hlen]; exact hRlocals)
  obtain ⟨hwalk, hrun, hended, hWU, hsame⟩ := X₂.athrowLeaves hexec (g := { f with stack := .ref a :: rest, pc := f.pc + 3 }) hg hlocked hentered hout (a := a) (rest := rest) rfl hd9
  have hlt : a < ((W0.setVm vm₁).setVm vm₂).heap.size := (Array.getElem?_eq_some_iff.mp hcell).1
  have hU := heapAt_setCell_self (s := (W0.setVm vm₁).setVm vm₂) (plainBareV T.toThrowableT (freshCell P1.m.cls kX) a u0 sen msg) hlt
  refine ⟨_, st1 _ (fun acts => ?_), hrun, hended, hWU, hsame.weaken (fun y hy hlt' => ?_) (Nat.le_refl _) (Nat.le_refl _), _, hU, hfound, rfl⟩
  · rw [doInvoke_state]
    exact st2 _ hwalk
  · rcases List.mem_append.mp hy with h1 | h1
    · exact h1
    · exfalso
      have hb : y.base = a := by
        simp only [List.mem_cons, List.not_mem_nil, or_false] at h1
        rcases h1 with rfl | rfl | rfl | rfl | rfl <;> rfl
      rw [hb] at hlt'
      exact Nat.not_lt.mpr hnew hlt'
/-- 'throw new E("text")' (follows vx_throwS, any constructor of that form, the text by a short or a wide index) -/
theorem z_throwE (C0 : zC g (zA N ad s.heap.size) p s m args c cc nL own) (Wd : zW g (zA N ad s.heap.size) s.heap N ad M F H locs) (hst : l.stackTraces = false) (hsz : ls.size = nL) {cls text : String} {ik ic ix is sa k : Nat} {rx : ByteArray} (hw : zTh own ik ic cls ix rx) (hstr : vk_R own is text sa s) (hno : ∀ x ∈ c.exceptionTable.toList, False) (hlk : meth.locks = false)
    (d0 : decode cc pc = .ok (.new ik, 3)) (d3 : decode cc (pc + 3) = .ok (.dup, 1)) (d4 : (k = 2 ∧ decode cc (pc + 4) = .ok (.ldc is, 2)) ∨ (k = 3 ∧ decode cc (pc + 4) = .ok (.ldc_w is, 3)))
    (d6 : decode cc (pc + 4 + k) = .ok (.invokespecial ic, 3)) (d9 : decode cc (pc + 4 + k + 3) = .ok (.athrow, 1))
    (hR : 5 < R.frames ∧ (rest.map fun v => v.category).sum + 82 ≤ R.locals) (hf : cells + 1 ≤ R.cells ∧ slots + 6 ≤ R.slots) (hc : cells + 1 ≤ mc) (hs : slots + 6 ≤ ms) (hp : px cls M F) :
    W p l e R s m args below meth c H locs cells slots (zXQ below g N ad post px args s mc ms) (F0 m pc ls rest) := by
  intro T hT X
  have hexec := C0.1.1
  have hb := C0.1.2.1
  have htr : e.platform.stackTraces = false := (show e.platform.stackTraces = l.stackTraces by rw [X.admits.platform]).trans hst
  have Y := vx_rebase X (R' := { frames := R.frames, locals := R.locals, cells := 1, slots := 6 }) (Nat.le_refl _) (Nat.le_refl _) hf.1 hf.2
  obtain ⟨s', hA⟩ : ∃ z, z = (T.setVm s.vm).setFrames (.invoking m args :: below) := ⟨_, rfl⟩
  rw [← hA] at Y
  have hvm : s'.vm = s.vm := by
    rw [hA]
    rfl
  have hhp : s'.heap = H := by
    rw [hA]
    exact hT
  have hW0 : s.WarmedH s'.vm := by
    rw [hvm]
    exact State.WarmedH.refl s
  have hat' : ∀ w ∈ zAX own ic cls ix rx, w.before args s' = true := fun w h9 => vx_ot_at hW0 hvm.symm (hw.2.2.2.2.2.2.1 w (List.mem_cons_of_mem _ (List.mem_cons_of_mem _ h9))) (zTh_at C0 hw w h9)
  have hk' : (Cond.classLink own ik cls).before args s' = true := vx_ot_at hW0 hvm.symm (hw.2.2.2.2.2.2.1 _ List.mem_cons_self) (C0.1.2.2.2.2 _ hw.2.1)
  have hini' : (Cond.initialized cls).before args s' = true := vx_ot_at hW0 hvm.symm (hw.2.2.2.2.2.2.1 _ (List.mem_cons_of_mem _ List.mem_cons_self)) (C0.1.2.2.2.2 _ hw.2.2.1)
  have hS := Wd.1.2.2
  have hU' : vx_Zq Bundle.tN "UNASSIGNED_STACK" Bundle.steD (zA N ad s.heap.size) s' s'.heap := by
    rw [hhp]
    exact vx_Zq.moved hW0.alike ((zc_us C0).kept hS.2.1)
  have hN' : vx_Zq Bundle.tN "SUPPRESSED_SENTINEL" Bundle.listD (zA N ad s.heap.size) s' s'.heap := by
    rw [hhp]
    exact vx_Zq.moved hW0.alike ((zc_ss C0).kept hS.2.1)
  have h : ∀ w ∈ Bundle.ownAtomsX own ic cls ix rx zRE, w.before args s' = true := vx_own hat' (vx_isRefq hU'.1) (vx_isRefq hN'.1) hU'.2.word hN'.2.word
  have hown' : s'.vm.findClass own = some m.cls := by
    rw [hvm]
    exact C0.1.2.2.2.1
  have hins : (Cond.instantiable cls 6).before args s' = true := h _ (by simp [Bundle.ownAtomsX])
  obtain ⟨vm₁, cX, kX, hfX, hkX, -, -, X₁, st1⟩ := Y.newCold hexec (own := own) (C := cls) (index := ik) (n := 6) hown' hk' hins hini'
    (g := F0 m pc ls rest) rfl (by rw [hb]; exact d0) (Nat.le_refl _) (Nat.le_refl _)
  generalize hT1 : (T.setVm vm₁).pushCell { cls := cX, slots := kX.instanceTypes.map defaultValue, vm := .none } = T1 at X₁ st1
  have hcat : (Value.ref T.heap.size).category = 1 := rfl
  have hcellA : T1.heap[T.heap.size]? = some (freshCell cX kX) := by
    rw [← hT1]
    exact State.heap_pushCell_size _ _
  have d3' : decode c.code (pc + 3) = .ok (.dup, 1) := by
    rw [hb]
    exact d3
  have hstr' : vk_R own is text sa s' := vk_R.warm hW0 hstr
  obtain ⟨U, hsteps, hrun, hend, hW, hsame, ce, hce, hOc, hOv⟩ := zctorX X₁ hexec htr (own := own) (cls := cls) (names := zRE) (ic := ic) hw.2.2.2.2.2.2.2.1 hw.2.2.2.2.2.2.2.2.1 hw.2.2.2.2.2.2.2.2.2.1 hw.2.2.2.2.2.2.2.2.2.2 hown' hw.1 zTh_names h (fun x hx => nomatch hx) hfX hkX hcellA (by rw [hhp, hT]; exact Nat.le_refl _) (msg := .ref sa) rfl
    (f := { method := m, pc := pc + 4 + k, locals := ls, stack := .ref sa :: .ref T.heap.size :: .ref T.heap.size :: rest, locked := none }) rfl (by rw [C0.1.2.2.1, hsz]) rfl rfl (rest := rest) rfl
    (by rw [hb]; exact d6) (by rw [hb]; exact d9) (fun x hx => absurd hx (fun z => hno x z)) hR.1 (by simp only [List.map_cons, List.sum_cons, hcat, List.length_cons, List.length_nil]; have := hR.2; omega) hlk
  obtain ⟨f1, f2⟩ := vx_frame hsame
  rw [hhp] at f1 f2
  have hWs : s.WarmedH U.vm := State.WarmedH.trans hW0 hW
  have hcl : s.vm.findClass cls = some ce.cls := by
    rw [hvm] at hOc
    exact hOc
  have hall : s.sameButNew ({ U with vm := s.vm } : State) locs mc ms := by
    subst hA
    obtain ⟨e1, e2⟩ := hsame
    rw [State.setFrames_setFrames] at e1
    have h2 : (T.setVm s.vm).sameButNew ({ U with vm := s.vm } : State) [] (0 + 1) (0 + 6) := ⟨e1, e2⟩
    have h3 := X.same.trans h2
    rw [List.append_nil] at h3
    exact h3.mono hc hs
  refine ⟨U, ?_, .threw T.heap.size, hrun, hend, Or.inr ⟨T.heap.size, rfl, cls, ce, locs, zXC_grow Wd hp f1 (fun q hq => f2 q hq (fun z hz => nomatch hz)), hce, hOv, hcl, hWs, hall, Wd.1.2.2.2.2⟩⟩
  refine st1 _ ?_
  show Steps p.tables e below (T1.setTop { method := m, pc := pc + 3, locals := ls, stack := .ref T.heap.size :: rest, locked := none }) _
  jvm_step X₁.here [X₁.here.top, hexec, d3', Value.category]
  rcases d4 with ⟨rfl, d4⟩ | ⟨rfl, d4⟩
  · exact X₁.ldcString hexec (own := own) (text := text) (index := is) (a := sa) hown' hstr'.1 hstr'.2
      (g := { method := m, pc := pc + 4, locals := ls, stack := .ref T.heap.size :: .ref T.heap.size :: rest, locked := none }) rfl (by rw [hb]; exact d4) _ hsteps
  · exact X₁.ldcStringW hexec (own := own) (text := text) (index := is) (a := sa) hown' hstr'.1 hstr'.2
      (g := { method := m, pc := pc + 4, locals := ls, stack := .ref T.heap.size :: .ref T.heap.size :: rest, locked := none }) rfl (by rw [hb]; exact d4) _ hsteps
/-- the end: it returns -/
theorem z_xret {g9 : JFrame} (k : W p l e R s m args below meth c H locs cells slots (zMQ below g N ad post args s cells slots) g9) (hc : cells ≤ mc) (hs : slots ≤ ms) : W p l e R s m args below meth c H locs cells slots (zXQ below g N ad post px args s mc ms) g9 := by
  refine vx_ret ?_
  intro T hT X
  obtain ⟨t, a1, o, b1, b2, b3, L, b4, b5⟩ := k T hT X
  exact ⟨t, a1, o, b1, b2, b3, L, ⟨b4.1, b4.2.1, b4.2.2.mono hc hs⟩, b5⟩
theorem z_callX {px' : String → zMem → zMem → Prop} {post' : Option Value → zMem → zMem → Prop} {mc' ms' : Nat} (hr : vx_Run p l e R s m args below meth c H locs cells slots mc' ms' (F0 m pc ls st0) rest (zQ g N ad H.size post' a) (zXC g N ad H.size px') (zA N ad H.size)) (C0 : zC g (zA N ad s.heap.size) p s m args c cc nL own) (Wd : zW g (zA N ad s.heap.size) s.heap N ad M F H locs) (hno : ∀ x ∈ c.exceptionTable.toList, False) (hlk : meth.locks = false) (hc : cells + mc' ≤ mc) (hs : slots + ms' ≤ ms) (hpx : ∀ E M' F', px' E M' F' → px E M' F')
    (kk : ∀ (v : Option Value) (M' F' : zMem) (H1 : Heap) (locs1 : List Loc), post' v M' F' → zW g (zA N ad s.heap.size) s.heap N ad M' F' H1 locs1 → W p l e R s m args below meth c H1 locs1 (cells + mc') (slots + ms') (zXQ below g N ad post px args s mc ms) (F0 m (pc + 3) ls (v.toList ++ rest))) : W p l e R s m args below meth c H locs cells slots (zXQ below g N ad post px args s mc ms) (F0 m pc ls st0) := by
  have hsub := zA_sub Wd C0.2.2.2
  intro T hT X
  rcases hr T hT X with ⟨v, st₀, t, T', L, h0, X', hL, e1, e2, ⟨⟨v', M', F', hv, hp, hP1, hD1, hR1⟩, hz, hk⟩, st⟩ | ⟨q, st₀, t, T', L, E, ce, h0, X', hL, e1, e2, ⟨⟨M', F', hp, hP1, hD1, hR1⟩, hz, hk⟩, hce, hcv, hcl, st⟩
  · cases hv
    rw [h0] at hz hk
    obtain ⟨t2, a1, b1⟩ := kk v M' F' T'.heap (locs ++ L) hp ⟨⟨by rw [e1]; exact hP1, hD1.weaken (fun _ q _ h => hsub q.1 h), Nat.le_trans Wd.1.2.2.1 (by rw [e1]; exact hz), fun q h1 h2 => by rw [e1, hk q (Nat.lt_of_lt_of_le h1 Wd.1.2.2.1) (fun z => h2 (hsub q z))]; exact Wd.1.2.2.2.1 q h1 h2, fun q hq => by
        rcases List.mem_append.mp hq with h | h
        · exact Wd.1.2.2.2.2 q h
        · exact hsub _ (hL q h)⟩, hR1⟩ T' rfl X'
    exact ⟨t2, st t2 a1, b1⟩
  · rw [h0] at hz hk
    have hWd : zW g (zA N ad s.heap.size) s.heap N ad M' F' T'.heap (locs ++ L) := ⟨⟨by rw [e1]; exact hP1, hD1.weaken (fun _ q _ h => hsub q.1 h), Nat.le_trans Wd.1.2.2.1 (by rw [e1]; exact hz), fun q h1 h2 => by rw [e1, hk q (Nat.lt_of_lt_of_le h1 Wd.1.2.2.1) (fun z => h2 (hsub q z))]; exact Wd.1.2.2.2.1 q h1 h2, fun q hq => by
        rcases List.mem_append.mp hq with h | h
        · exact Wd.1.2.2.2.2 q h
        · exact hsub _ (hL q h)⟩, hR1⟩
    obtain ⟨t2, a1, b1⟩ := vx_out (pc := pc) (rest := rest) (ls := ls) (Qc := zQ g N ad s.heap.size post) (XC := zXC g N ad s.heap.size px) (free := zA N ad s.heap.size) (p := p) (l := l) (e := e) (R := R) (s := s) (m := m) (args := args) (below := below) (meth := meth) (c := c) (H := T'.heap) (locs := locs ++ L) (cells := cells + mc') (slots := slots + ms') (mc := mc) (ms := ms) (E := E) (ce := ce) (q := q) (fun x hx => absurd hx (fun z => hno x z)) hlk (by rw [e1]; exact hce) hcv hcl (fun t9 h9 _ => zXC_grow hWd (hpx E M' F' hp) (by rw [h9]; exact Nat.le_refl _) (fun q _ => by rw [h9])) hWd.1.2.2.2.2 hc hs T' rfl X'
    exact ⟨t2, st.trans a1, b1⟩
theorem z_invVX {b : Nat} {C : String} {px' : String → zMem → zMem → Prop} {post' : Option Value → zMem → zMem → Prop} {mc' ms' : Nat} {y : MethodName} {cc' : ByteArray} {nL' : Nat} {ret' : Option FieldType} {d n idx : Nat} {As : List Value} (C0 : zC g (zA N ad s.heap.size) p s m args c cc nL own) (Wd : zW g (zA N ad s.heap.size) s.heap N ad M F H locs) (hst9 : l.stackTraces = false) (hno : ∀ x ∈ c.exceptionTable.toList, False) (hlk : meth.locks = false) (hM : zMx l y cc' nL' ret' d mc' ms' g N ad (.ref b :: As) M F post' px') (kv : zKV y cc' nL' ret' C n) (hrecv : ∃ cell : Cell, H[b]? = some cell ∧ cell.vm.isStatics = false ∧ s.vm.findClass C = some cell.cls) (hlink : Cond.methodLink own idx y ∈ zT) (hn : As.length = n) (hsz : ls.size = nL) (hst0 : st0 = As.reverse ++ .ref b :: rest) (hst : (rest.map fun v => v.category).sum ≤ 8) (hR : d + 1 ≤ R.frames ∧ 8 + (nL' + 11) + 60 * d ≤ R.locals) (hf : cells + mc' ≤ R.cells ∧ slots + ms' ≤ R.slots) (hc : cells + mc' ≤ mc) (hs : slots + ms' ≤ ms) (hpx : ∀ E M' F', px' E M' F' → px E M' F') (hdg : decode cc pc = .ok (.invokevirtual idx, 3)) (kk : ∀ (v : Option Value) (M' F' : zMem) (H1 : Heap) (locs1 : List Loc), post' v M' F' → zW g (zA N ad s.heap.size) s.heap N ad M' F' H1 locs1 → W p l e R s m args below meth c H1 locs1 (cells + mc') (slots + ms') (zXQ below g N ad post px args s mc ms) (F0 m (pc + 3) ls (v.toList ++ rest))) : W p l e R s m args below meth c H locs cells slots (zXQ below g N ad post px args s mc ms) (F0 m pc ls st0) := by
  obtain ⟨k1, k2, k3, k4, k5, k6, k7⟩ := kv
  exact z_callX (vx_runV (As := As) (rest := rest) C0.1 (hM hst9 H.size) ⟨z_callB C0 k1 k4 ⟨k5, k6, k7⟩ hlink hR, C0.1.2.2.2.2 _ k2, C0.1.2.2.2.2 _ k3⟩ ⟨zPre_blind, hrecv, zPre_of C0 Wd _⟩ rfl hn hsz hst0 (lv_room hst) hdg hf) C0 Wd hno hlk hc hs hpx kk
theorem z_invSX {px' : String → zMem → zMem → Prop} {post' : Option Value → zMem → zMem → Prop} {mc' ms' : Nat} {y : MethodName} {cc' : ByteArray} {nL' : Nat} {ret' : Option FieldType} {d n idx : Nat} {As : List Value} (C0 : zC g (zA N ad s.heap.size) p s m args c cc nL own) (Wd : zW g (zA N ad s.heap.size) s.heap N ad M F H locs) (hst9 : l.stackTraces = false) (hno : ∀ x ∈ c.exceptionTable.toList, False) (hlk : meth.locks = false) (hM : zMx l y cc' nL' ret' d mc' ms' g N ad As M F post' px') (kv : zKS y cc' nL' ret' n) (hlink : Cond.methodLink own idx y ∈ zT) (hn : As.length = n) (hsz : ls.size = nL) (hst0 : st0 = As.reverse ++ rest) (hst : (rest.map fun v => v.category).sum ≤ 8) (hR : d + 1 ≤ R.frames ∧ 8 + (nL' + 11) + 60 * d ≤ R.locals) (hf : cells + mc' ≤ R.cells ∧ slots + ms' ≤ R.slots) (hc : cells + mc' ≤ mc) (hs : slots + ms' ≤ ms) (hpx : ∀ E M' F', px' E M' F' → px E M' F') (hdg : decode cc pc = .ok (.invokestatic idx, 3)) (kk : ∀ (v : Option Value) (M' F' : zMem) (H1 : Heap) (locs1 : List Loc), post' v M' F' → zW g (zA N ad s.heap.size) s.heap N ad M' F' H1 locs1 → W p l e R s m args below meth c H1 locs1 (cells + mc') (slots + ms') (zXQ below g N ad post px args s mc ms) (F0 m (pc + 3) ls (v.toList ++ rest))) : W p l e R s m args below meth c H locs cells slots (zXQ below g N ad post px args s mc ms) (F0 m pc ls st0) := by
  obtain ⟨k1, k2, k3, k4, k5, k6⟩ := kv
  exact z_callX (vx_runS (As := As) (rest := rest) C0.1 (hM hst9 H.size) ⟨z_callB C0 k1 k3 ⟨k4, k5, k6⟩ hlink hR, C0.1.2.2.2.2 _ k2⟩ ⟨zPre_blind, zPre_of C0 Wd _⟩ rfl hn hsz hst0 (lv_room hst) hdg hf) C0 Wd hno hlk hc hs hpx kk
end ZX
theorem zTh_I : zTh "DrumWarren" 170 174 "java/lang/IndexOutOfBoundsException" 7 prog_28_method_2_code := ⟨by decide +kernel, zk_430, zk_46, by decide +kernel, by decide +kernel, List.mem_of_getElem? (i := 0) rfl, by decide +kernel, by decide +kernel, by decide +kernel, by decide +kernel, by decide +kernel⟩
theorem zTh_N : zTh "DrumWarren" 93 97 "java/util/NoSuchElementException" 13 prog_44_method_4_code := ⟨by decide +kernel, zk_502, zk_47, by decide +kernel, by decide +kernel, List.mem_of_getElem? (i := 1) rfl, by decide +kernel, by decide +kernel, by decide +kernel, by decide +kernel, by decide +kernel⟩
theorem zTh_A : zTh "DrumWarren" 216 220 "java/lang/IllegalArgumentException" 7 prog_26_method_2_code := ⟨by decide +kernel, zk_518, zk_48, by decide +kernel, by decide +kernel, List.mem_of_getElem? (i := 2) rfl, by decide +kernel, by decide +kernel, by decide +kernel, by decide +kernel, by decide +kernel⟩
theorem zTh_S : zTh "DrumWarren" 226 230 "java/lang/IllegalStateException" 7 prog_27_method_2_code := ⟨by decide +kernel, zk_534, zk_49, by decide +kernel, by decide +kernel, List.mem_of_getElem? (i := 3) rfl, by decide +kernel, by decide +kernel, by decide +kernel, by decide +kernel, by decide +kernel⟩
theorem zTh_U : zTh "DrumWarren" 243 247 "java/lang/UnsupportedOperationException" 7 prog_40_method_2_code := ⟨by decide +kernel, zk_1371, zk_60, by decide +kernel, by decide +kernel, List.mem_of_getElem? (i := 4) rfl, by decide +kernel, by decide +kernel, by decide +kernel, by decide +kernel, by decide +kernel⟩
theorem zTh_R : zTh "DrumWarren" 274 278 "java/lang/ArithmeticException" 7 prog_18_method_2_code := ⟨by decide +kernel, zk_1395, zk_61, by decide +kernel, by decide +kernel, List.mem_of_getElem? (i := 5) rfl, by decide +kernel, by decide +kernel, by decide +kernel, by decide +kernel, by decide +kernel⟩
