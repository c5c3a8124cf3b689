/-! contracts over facts of what lies outside -/
abbrev zXf : Type := (Nat → Prop) → State → Heap → Prop
def zXk (X : zXf) : Prop := (∀ (A : Nat → Prop) (u U : State) (H : Heap), u.vm.Alike U.vm → X A u H → X A U H) ∧ (∀ (A : Nat → Prop) (U : State) (H H1 : Heap), X A U H → (∀ a : Nat, a < H.size → ¬ A a → H1[a]? = H[a]?) → X A U H1) ∧ ∀ (A B : Nat → Prop) (U : State) (H : Heap), X A U H → (∀ q, B q → A q) → X B U H
/-- the script lies outside -/
def zSc (b L : Nat) (xs : Nat → Int32) : zXf := fun A U H => va_X b L xs U H ∧ b < H.size ∧ ¬ A b
theorem zSc_k {b L : Nat} {xs : Nat → Int32} : zXk (zSc b L xs) := by
  refine ⟨fun A u U H h x => ⟨va_X.moved h x.1, x.2⟩, fun A U H H1 x hq => ?_, fun A B U H x h => ⟨x.1, x.2.1, fun z => x.2.2 (h b z)⟩⟩
  have e := hq b x.2.1 x.2.2
  refine ⟨va_X.kept x.1 e, ?_, x.2.2⟩
  obtain ⟨scr, h1, _⟩ := x.1
  rw [h1] at e
  exact (Array.getElem?_eq_some_iff.mp e).1
def zPreV (g : zG) (N : zNs) (ad : Int → Nat) (M F : zMem) (X : zXf) (sz : Nat) (U : State) : Prop :=
  zPre g N ad M F sz U ∧ zXk X ∧ X (zA N ad sz) U U.heap
def zMv (l : Launch) (y : MethodName) (cc : ByteArray) (nL : Nat) (ret : Option FieldType) (d mc ms : Nat) (g : zG) (N : zNs) (ad : Int → Nat) (X : zXf) (av : List Value) (M F : zMem) (post : Option Value → zMem → zMem → Prop) : Prop :=
  ∀ sz, Met l y (Cond.code y cc nL ret :: zT) (zrm d mc ms) (va_Pc av (zPreV g N ad M F X sz)) (zQ g N ad sz post) mc ms (zA N ad sz)
theorem zPreV_blind {g : zG} {N : zNs} {ad : Int → Nat} {M F : zMem} {X : zXf} {sz : Nat} {av : List Value} : FrameBlind (va_Pc av (zPreV g N ad M F X sz)) := by
  intro a U fr mk q
  obtain ⟨q0, q1, q2, q3⟩ := q
  exact ⟨q0, (zPre_blind a U fr mk ⟨q0, q1⟩).2, q2, q2.1 _ U (U.calling fr mk a) _ (Vm.Alike.refl U.vm) q3⟩
theorem zMv.of {l : Launch} {y : MethodName} {cc : ByteArray} {nL : Nat} {ret : Option FieldType} {d mc ms : Nat} {g : zG} {N : zNs} {ad : Int → Nat} {X : zXf} {av : List Value} {M F : zMem} {post : Option Value → zMem → zMem → Prop} (own : String) (hown : y.cls = own) (hy : plainName y.cls = true) (hlen : (lg_sl av).length ≤ nL)
    (body : ∀ {p : Program} {e : Env} {s : State} {m : MethodId} {args : Array Value} {below : List Frame} {meth : Method} {c : Code} {ls : Array Slot}, zC g (zA N ad s.heap.size) p s m args c cc nL own → zW g (zA N ad s.heap.size) s.heap N ad M F s.heap [] → lv_has ls nL (lv_args 0 av) → meth.sig.returnType = ret → meth.locks = false → (y.name = "<init>" → meth.name = "<init>") → zXk X → X (zA N ad s.heap.size) s s.heap →
      W p l e (zrm d mc ms) s m args below meth c s.heap [] 0 0 (zMQ below g N ad post args s mc ms) (F0 m 0 ls [])) : zMv l y cc nL ret d mc ms g N ad X av M F post := by
  intro sz
  refine Met.ofW (cc := cc) (maxL := nL) (ret := ret) hy rfl ?_
  intro p e s m args below meth c s₁ B hml hv
  obtain ⟨rfl, ⟨hsz, hP, hK, hD0, hRM, hZ⟩, hXk, hS⟩ := hv
  subst hsz
  have hts := atoms_spec (ws := Cond.code y cc nL ret :: zT) B.pre
  have hl := lv_entry av (n := nL) hlen
  rw [lg_entry_eq]
  generalize (lg_sl av ++ List.replicate (nL - (lg_sl av).length) Slot.unset).toArray = ls at hl ⊢
  have hD : va_D (zA N ad s.heap.size) (wl g N ad M F) := hD0.weaken (fun k q hk _ => wl_A hk)
  exact body ⟨⟨B.exec, B.bytes, hml, by rw [← hown]; exact findClass_of_methodNamed B.named, fun w hw => hts w (List.mem_cons_of_mem _ hw)⟩, hK, hZ, fun q h => Or.inr h⟩ ⟨⟨hP, hD, va_S.rf⟩, hRM⟩ hl B.returns B.notSynchronized (fun h => by rw [← h]; exact (name_of_methodNamed B.named B.method).1) hXk hS
section ZV
variable {g : zG} {A : Nat → Prop} {p : Program} {l : Launch} {e : Env} {R : Room} {s : State} {m : MethodId} {args : Array Value} {below : List Frame} {meth : Method} {c : Code} {H : Heap} {locs : List Loc} {cells slots : Nat} {Q : State → Prop}
variable {cc : ByteArray} {nL : Nat} {own : String} {pc : Nat} {N : zNs} {ls : Array Slot} {rest st0 : List Value} {ad : Int → Nat} {M F : zMem} {ws wc wr : va_W} {X : zXf} {mc ms : Nat} {a : Array Value}
variable {post : Option Value → zMem → zMem → Prop}
theorem zPreV_of (C0 : zC g A p s m args c cc nL own) (Wd : zW g A s.heap N ad M F H locs) (hk : zXk X) (hS : X (zA N ad H.size) s H) (av : List Value) : ∀ U : State, U.heap = H → s.WarmedH U.vm → va_Pc av (zPreV g N ad M F X H.size) av.toArray U := by
  intro U hU hW
  refine ⟨rfl, (zPre_of C0 Wd av U hU hW).2, hk, ?_⟩
  rw [hU]
  exact hk.1 _ s U _ hW.alike hS
theorem zXf_in (C0 : zC g A p s m args c cc nL own) (Wd : zW g A s.heap N ad M F H locs) (hk : zXk X) (hS : X A s s.heap) : X (zA N ad H.size) s H := hk.2.2 _ _ _ _ (hk.2.1 _ _ _ _ hS Wd.1.2.2.2.1) (zA_sub Wd C0.2.2.2)
theorem z_invSx {y : MethodName} {cc' : ByteArray} {nL' : Nat} {ret' : Option FieldType} {d n idx : Nat} {As : List Value} (C0 : zC g A p s m args c cc nL own) (Wd : zW g A s.heap N ad M F H locs) (hM : zMv l y cc' nL' ret' d mc ms g N ad X As M F post) (kv : zKS y cc' nL' ret' n) (hk9 : zXk X) (hS : X A s s.heap) (hlink : Cond.methodLink own idx y ∈ zT) (hn : As.length = n) (hsz : ls.size = nL) (hst0 : st0 = As.reverse ++ rest) (hst : (rest.map fun v => v.category).sum ≤ 8) (hR : d + 1 ≤ R.frames ∧ 8 + (nL' + 11) + 60 * d ≤ R.locals) (hf : cells + mc ≤ R.cells ∧ slots + ms ≤ R.slots) (hdg : decode cc pc = .ok (.invokestatic idx, 3))
    (kk : ∀ (v : Option Value) (M' F' : zMem) (H1 : Heap) (locs1 : List Loc), post v M' F' → zW g A s.heap N ad M' F' H1 locs1 → W p l e R s m args below meth c H1 locs1 (cells + mc) (slots + ms) Q (F0 m (pc + 3) ls (v.toList ++ rest))) : W p l e R s m args below meth c H locs cells slots Q (F0 m pc ls st0) := by
  obtain ⟨k1, k2, k3, k4, k5, k6⟩ := kv
  exact z_call (va_runS (As := As) (rest := rest) C0.1 (hM H.size) ⟨z_callB C0 k1 k3 ⟨k4, k5, k6⟩ hlink hR, C0.1.2.2.2.2 _ k2⟩ ⟨zPreV_blind, zPreV_of C0 Wd hk9 (zXf_in C0 Wd hk9 hS) _⟩ rfl hn hsz hst0 (lv_room hst) hdg hf) C0 Wd kk
end ZV
def xPre (g : zG) (ws : va_W) (X : zXf) (sz : Nat) (U : State) : Prop :=
  U.heap.size = sz ∧ va_P (g.1, g.2.1) zCl ws U.heap ∧ va_K (g.1, g.2.1) zCl (zty g) U ∧ va_D (fun _ => True) ws ∧ (zXk X ∧ X (va_A ws sz) U U.heap) ∧ zS g (va_A ws sz) U U.heap
def xMt (l : Launch) (y : MethodName) (cc : ByteArray) (nL : Nat) (ret : Option FieldType) (d mc ms : Nat) (g : zG) (X : zXf) (av : List Value) (ws : va_W) (post : Option Value → va_W → Prop) : Prop :=
  ∀ sz, Met l y (Cond.code y cc nL ret :: zT) (zrm d mc ms) (va_Pc av (xPre g ws X sz)) (rQ g ws sz post) mc ms (va_A ws sz)
theorem xPre_blind {g : zG} {ws : va_W} {X : zXf} {sz : Nat} {av : List Value} : FrameBlind (va_Pc av (xPre g ws X sz)) := by
  intro a U fr mk q
  obtain ⟨q0, q1, q2, q3, q4, q5, q6⟩ := q
  exact ⟨q0, q1, q2, va_K.moved (u := U) (U := U.calling fr mk a) (Vm.Alike.refl U.vm) q3, q4, ⟨q5.1, q5.1.1 _ U (U.calling fr mk a) _ (Vm.Alike.refl U.vm) q5.2⟩, zS.pass (s := U) (U := U.calling fr mk a) q6 (va_S.rf) (Vm.Alike.refl U.vm) (fun h => zSb.same rfl h) rfl (fun _ h => h)⟩
theorem xMt.of {l : Launch} {y : MethodName} {cc : ByteArray} {nL : Nat} {ret : Option FieldType} {d mc ms : Nat} {g : zG} {X : zXf} {av : List Value} {ws : va_W} {post : Option Value → va_W → Prop} (own : String) (hown : y.cls = own) (hy : plainFor y = true) (hlen : (lg_sl av).length ≤ nL)
    (body : ∀ {p : Program} {e : Env} {s : State} {m : MethodId} {args : Array Value} {below : List Frame} {meth : Method} {c : Code} {ls : Array Slot}, zC g (va_A ws s.heap.size) p s m args c cc nL own → rW g (va_A ws s.heap.size) s.heap ws s.heap [] → lv_has ls nL (lv_args 0 av) → meth.sig.returnType = ret → meth.locks = false → (y.name = "<init>" → meth.name = "<init>") → zXk X → X (va_A ws s.heap.size) s s.heap →
      W p l e (zrm d mc ms) s m args below meth c s.heap [] 0 0 (rMQ below g ws post args s mc ms) (F0 m 0 ls [])) : xMt l y cc nL ret d mc ms g X av ws post := by
  intro sz
  refine va_MetF (cc := cc) (maxL := nL) (ret := ret) hy rfl ?_
  intro p e s m args below meth c s₁ B hml hv
  obtain ⟨rfl, hsz, hP, hK, hD0, hFa, hZ⟩ := hv
  subst hsz
  have hts := atoms_spec (ws := Cond.code y cc nL ret :: zT) B.pre
  have hl := lv_entry av (n := nL) hlen
  rw [lg_entry_eq]
  generalize (lg_sl av ++ List.replicate (nL - (lg_sl av).length) Slot.unset).toArray = ls at hl ⊢
  have hD : va_D (va_A ws s.heap.size) ws := hD0.self
  exact body ⟨⟨B.exec, B.bytes, hml, by rw [← hown]; exact findClass_of_methodNamed B.named, fun w hw => hts w (List.mem_cons_of_mem _ hw)⟩, hK, hZ, fun q h => Or.inr h⟩ ⟨hP, hD, va_S.rf⟩ hl B.returns B.notSynchronized (fun h => by rw [← h]; exact (name_of_methodNamed B.named B.method).1) hFa.1 hFa.2
section ZXR
variable {g : zG} {A : Nat → Prop} {p : Program} {l : Launch} {e : Env} {R : Room} {s : State} {m : MethodId} {args : Array Value} {below : List Frame} {meth : Method} {c : Code} {H : Heap} {locs : List Loc} {cells slots : Nat} {Q : State → Prop}
variable {cc : ByteArray} {nL : Nat} {own : String} {pc : Nat} {ls : Array Slot} {rest st0 : List Value} {ws wc wr : va_W} {X : zXf} {mc ms : Nat} {a : Array Value}
variable {post : Option Value → va_W → Prop}
theorem xPre_of (C0 : zC g A p s m args c cc nL own) (Wd : rW g A s.heap (wr ++ wc) H locs) (hk9 : zXk X) (hF : X (va_A wc H.size) s H) (av : List Value) : ∀ U : State, U.heap = H → s.WarmedH U.vm → va_Pc av (xPre g wc X H.size) av.toArray U := by
  intro U hU hW
  subst hU
  have at1 : ∀ (k : Nat) (q : Nat × va_E), wc[k]? = some q → (wr ++ wc)[wr.length + k]? = some q := fun k q hq => by
    rw [List.getElem?_append_right (by omega), show wr.length + k - wr.length = k by omega]
    exact hq
  refine ⟨rfl, rfl, fun k q hq => Wd.1 _ q (at1 k q hq), va_K.moved hW.alike C0.2.1, ⟨fun i j x y hx hy e => ?_, fun _ _ _ => trivial⟩, ⟨hk9, hk9.1 _ _ _ _ hW.alike hF⟩, zS.pass C0.2.2.1 Wd.2.2 hW.alike (fun h => zSb.warm hW h) rfl (rA_sub Wd C0.2.2.2)⟩
  have := Wd.2.1.1 _ _ x y (at1 i x hx) (at1 j y hy) e
  omega
theorem x_invS {y : MethodName} {cc' : ByteArray} {nL' : Nat} {ret' : Option FieldType} {d n idx : Nat} {As : List Value} (C0 : zC g A p s m args c cc nL own) (Wd : rW g A s.heap (wr ++ wc) H locs) (hM : xMt l y cc' nL' ret' d mc ms g X As wc post) (kv : zKS y cc' nL' ret' n) (hk9 : zXk X) (hF : X (va_A wc H.size) s H) (hlink : Cond.methodLink own idx y ∈ zT) (hn : As.length = n) (hsz : ls.size = nL) (hst0 : st0 = As.reverse ++ rest) (hst : (rest.map fun v => v.category).sum ≤ 8) (hR : d + 1 ≤ R.frames ∧ 8 + (nL' + 11) + 60 * d ≤ R.locals) (hf : cells + mc ≤ R.cells ∧ slots + ms ≤ R.slots) (hdg : decode cc pc = .ok (.invokestatic idx, 3))
    (kk : ∀ (v : Option Value) (w1 : va_W) (H1 : Heap) (locs1 : List Loc), post v w1 → rW g A s.heap (wr ++ w1) H1 locs1 → W p l e R s m args below meth c H1 locs1 (cells + mc) (slots + ms) Q (F0 m (pc + 3) ls (v.toList ++ rest))) : W p l e R s m args below meth c H locs cells slots Q (F0 m pc ls st0) := by
  obtain ⟨k1, k2, k3, k4, k5, k6⟩ := kv
  exact r_call (va_runS (As := As) (rest := rest) C0.1 (hM H.size) ⟨z_callB C0 k1 k3 ⟨k4, k5, k6⟩ hlink hR, C0.1.2.2.2.2 _ k2⟩ ⟨xPre_blind, xPre_of C0 Wd hk9 hF _⟩ rfl hn hsz hst0 (lv_room hst) hdg hf) C0 Wd kk
end ZXR
