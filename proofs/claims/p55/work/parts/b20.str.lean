/-! Strings that were made, and calls that read them -/
/-- a String's facts: its address, its bytes' address, its letters -/
abbrev zSs : Type := List (Nat × Nat × List Int32)
def zPreS (g : zG) (N : zNs) (ad : Int → Nat) (M F : zMem) (S : zSs) (sz : Nat) (U : State) : Prop :=
  zPre g N ad M F sz U ∧ ∀ q ∈ S, zStr q.1 q.2.1 q.2.2 (zA N ad sz) U U.heap
def zMs (l : Launch) (y : MethodName) (cc : ByteArray) (nL : Nat) (ret : Option FieldType) (d mc ms : Nat) (g : zG) (N : zNs) (ad : Int → Nat) (S : zSs) (av : List Value) (M F : zMem) (post : Option Value → zMem → zMem → Prop) : Prop :=
  ∀ sz, Met l y (Cond.code y cc nL ret :: zT) (zrm d mc ms) (va_Pc av (zPreS g N ad M F S sz)) (zQ g N ad sz post) mc ms (zA N ad sz)
theorem zPreS_blind {g : zG} {N : zNs} {ad : Int → Nat} {M F : zMem} {S : zSs} {sz : Nat} {av : List Value} : FrameBlind (va_Pc av (zPreS g N ad M F S sz)) := by
  intro a U fr mk q
  obtain ⟨q0, q1, q2⟩ := q
  exact ⟨q0, (zPre_blind a U fr mk ⟨q0, q1⟩).2, fun z hz => zStr.moved (u := U) (U := U.calling fr mk a) (Vm.Alike.refl U.vm) (q2 z hz)⟩
theorem zMs.of {l : Launch} {y : MethodName} {cc : ByteArray} {nL : Nat} {ret : Option FieldType} {d mc ms : Nat} {g : zG} {N : zNs} {ad : Int → Nat} {S : zSs} {av : List Value} {M F : zMem} {post : Option Value → zMem → zMem → Prop} (own : String) (hown : y.cls = own) (hy : plainName y.cls = true) (hlen : (lg_sl av).length ≤ nL)
    (body : ∀ {p : Program} {e : Env} {s : State} {m : MethodId} {args : Array Value} {below : List Frame} {meth : Method} {c : Code} {ls : Array Slot}, zC g (zA N ad s.heap.size) p s m args c cc nL own → zW g (zA N ad s.heap.size) s.heap N ad M F s.heap [] → lv_has ls nL (lv_args 0 av) → meth.sig.returnType = ret → meth.locks = false → (y.name = "<init>" → meth.name = "<init>") → (∀ q ∈ S, zStr q.1 q.2.1 q.2.2 (zA N ad s.heap.size) s s.heap) →
      W p l e (zrm d mc ms) s m args below meth c s.heap [] 0 0 (zMQ below g N ad post args s mc ms) (F0 m 0 ls [])) : zMs l y cc nL ret d mc ms g N ad S av M F post := by
  intro sz
  refine Met.ofW (cc := cc) (maxL := nL) (ret := ret) hy rfl ?_
  intro p e s m args below meth c s₁ B hml hv
  obtain ⟨rfl, ⟨hsz, hP, hK, hD0, hRM, hZ⟩, hS⟩ := hv
  subst hsz
  have hts := atoms_spec (ws := Cond.code y cc nL ret :: zT) B.pre
  have hl := lv_entry av (n := nL) hlen
  rw [lg_entry_eq]
  generalize (lg_sl av ++ List.replicate (nL - (lg_sl av).length) Slot.unset).toArray = ls at hl ⊢
  have hD : va_D (zA N ad s.heap.size) (wl g N ad M F) := hD0.weaken (fun k q hk _ => wl_A hk)
  exact body ⟨⟨B.exec, B.bytes, hml, by rw [← hown]; exact findClass_of_methodNamed B.named, fun w hw => hts w (List.mem_cons_of_mem _ hw)⟩, hK, hZ, fun q h => Or.inr h⟩ ⟨⟨hP, hD, va_S.rf⟩, hRM⟩ hl B.returns B.notSynchronized (fun h => by rw [← h]; exact (name_of_methodNamed B.named B.method).1) hS
theorem zA_iff {g : zG} {N : zNs} {ad : Int → Nat} {M F : zMem} {sz q : Nat} : zA N ad sz q ↔ va_A (wl g N ad M F) sz q := by
  constructor
  · rintro ((⟨i, hi, rfl⟩ | ⟨x, hx, rfl⟩) | h)
    · exact Or.inl ⟨_, _, wl_get hi⟩
    · obtain ⟨k, hk⟩ := List.getElem?_of_mem (List.mem_append_right (wlC g N ad M F) hx)
      exact Or.inl ⟨k, x.2, hk⟩
    · exact Or.inr h
  · rintro (⟨k, e, h⟩ | h)
    · exact wl_A (q := (q, e)) h
    · exact Or.inr h
/-- worlds as lists: another order, or fewer cells -/
theorem va_D_nd {A : Nat → Prop} {ws : va_W} : va_D A ws ↔ (ws.map Prod.fst).Nodup ∧ ∀ q ∈ ws, A q.1 := by
  constructor
  · rintro ⟨h1, h2⟩
    refine ⟨?_, fun q hq => ?_⟩
    · rw [List.Nodup, List.pairwise_iff_getElem]
      intro i j hi hj hij e
      rw [List.length_map] at hi hj
      rw [List.getElem_map, List.getElem_map] at e
      have := h1 i j _ _ (List.getElem?_eq_getElem hi) (List.getElem?_eq_getElem hj) e
      omega
    · obtain ⟨k, hk⟩ := List.getElem?_of_mem hq
      exact h2 k q hk
  · rintro ⟨h1, h2⟩
    refine ⟨fun i j p q hp hq e => ?_, fun k q hk => h2 q (List.mem_of_getElem? hk)⟩
    have hi := (List.getElem?_eq_some_iff.mp hp).1
    have hj := (List.getElem?_eq_some_iff.mp hq).1
    rw [List.Nodup, List.pairwise_iff_getElem] at h1
    rcases Nat.lt_trichotomy i j with hlt | heq | hgt
    · refine absurd ?_ (h1 i j (by rw [List.length_map]; exact hi) (by rw [List.length_map]; exact hj) hlt)
      rw [List.getElem_map, List.getElem_map, (List.getElem?_eq_some_iff.mp hp).2, (List.getElem?_eq_some_iff.mp hq).2]
      exact e
    · exact heq
    · refine absurd ?_ (h1 j i (by rw [List.length_map]; exact hj) (by rw [List.length_map]; exact hi) hgt)
      rw [List.getElem_map, List.getElem_map, (List.getElem?_eq_some_iff.mp hp).2, (List.getElem?_eq_some_iff.mp hq).2]
      exact e.symm
theorem va_P_mem {D : va_G} {cl : List vw_C} {ws : va_W} {H : Heap} : va_P D cl ws H ↔ ∀ q ∈ ws, va_at D cl q H := by
  constructor
  · intro h q hq
    obtain ⟨k, hk⟩ := List.getElem?_of_mem hq
    exact h k q hk
  · intro h k q hk
    exact h q (List.mem_of_getElem? hk)
theorem rW.perm {g : zG} {A : Nat → Prop} {H0 : Heap} {ws ws' : va_W} {H : Heap} {locs : List Loc} (h : rW g A H0 ws H locs) (hp : ws'.Perm ws) : rW g A H0 ws' H locs := by
  obtain ⟨a, b, c⟩ := h
  refine ⟨va_P_mem.mpr (fun q hq => va_P_mem.mp a q (hp.mem_iff.mp hq)), va_D_nd.mpr ⟨?_, fun q hq => (va_D_nd.mp b).2 q (hp.mem_iff.mp hq)⟩, c⟩
  exact (List.Perm.nodup_iff (hp.map Prod.fst)).mpr (va_D_nd.mp b).1
theorem rW.sub {g : zG} {A : Nat → Prop} {H0 : Heap} {ws ws' : va_W} {H : Heap} {locs : List Loc} (h : rW g A H0 ws H locs) (hp : ws'.Sublist ws) : rW g A H0 ws' H locs := by
  obtain ⟨a, b, c⟩ := h
  exact ⟨va_P_mem.mpr (fun q hq => va_P_mem.mp a q (hp.subset hq)), va_D_nd.mpr ⟨List.Nodup.sublist (hp.map Prod.fst) (va_D_nd.mp b).1, fun q hq => (va_D_nd.mp b).2 q (hp.subset hq)⟩, c⟩
theorem zW_r {g : zG} {A : Nat → Prop} {H0 : Heap} {N : zNs} {ad : Int → Nat} {M F : zMem} {H : Heap} {locs : List Loc} (h : zW g A H0 N ad M F H locs) : rW g A H0 (wl g N ad M F) H locs := h.1
theorem r_zW {g : zG} {A : Nat → Prop} {H0 : Heap} {N : zNs} {ad : Int → Nat} {M F : zMem} {H : Heap} {locs : List Loc} (h : rW g A H0 (wl g N ad M F) H locs) (hM : zRM M) : zW g A H0 N ad M F H locs := ⟨h, hM⟩
section ZSTR

variable {g : zG} {A : Nat → Prop} {p : Program} {l : Launch} {e : Env} {R : Room} {s : State} {m : MethodId} {args : Array Value} {below : List Frame} {meth : Method} {c : Code} {H : Heap} {locs : List Loc} {cells slots : Nat} {Q : State → Prop}
variable {cc : ByteArray} {nL : Nat} {own : String} {pc : Nat} {N : zNs} {ls : Array Slot} {rest st0 : List Value} {ad : Int → Nat} {M F : zMem} {ws wc wr : va_W} {S : zSs}
variable {post : Option Value → zMem → zMem → Prop} {mc ms : Nat} {a : Array Value}

/-- a String in the world is a String for all that leave its cells alone -/
theorem zStr_of {B : Nat → Prop} {k v : Nat} {bs : List Int32} {f : Nat → Int32} {x y : Value} (C0 : zC g A p s m args c cc nL own) (hP : va_P (g.1, g.2.1) zCl ws H) (h1 : (k, .inr (9, [.ref v, .int 0, x, y])) ∈ ws) (h2 : (v, .inl (g.2.2.1 11, bs.length, .inl f)) ∈ ws) (hf : ∀ j, j < bs.length → f j = bs.getD j 0) (hB : ¬ B k ∧ ¬ B v) : zStr k v bs B s H := by
  obtain ⟨r, q0, cell, q1, q2, q3, q4⟩ := va_P_mem.mp hP _ h1
  have hr : r = (RJ0, TJ0, 4) := Option.some.inj (q0.symm.trans rfl)
  subst hr
  obtain ⟨hS, hfc, kC, hkC, hkind⟩ := C0.2.1.1 9 (RJ0, TJ0, 4) rfl
  have hin : ∀ w ∈ u_ws RJ0 TJ0 4, w ∈ zT := by decide +kernel
  have hb : H[v]? = some (vp_cell (g.2.2.1 11) (bs.length, .inl f)) := va_P_mem.mp hP _ h2
  obtain ⟨cf, kf, fi, fd, hi, hsl⟩ := hS 0 (by decide)
  obtain ⟨cf1, kf1, fi1, fd1, hi1, hsl1⟩ := hS 1 (by decide)
  refine ⟨⟨cell, q1, by rw [q3]; rfl, by rw [q2]; exact hfc, hB.1⟩, ⟨cf1, kf1, fi1, fd1, cell, hi1, (u_facts hfc hkC (u_lays C0.1.2.2.2.2 hin (k := 1) (by decide)) hi1).1, q1, by rw [q3]; exact (fun h => by cases h), by rw [hsl1]; exact q4 1 (by decide), hB.1⟩, ⟨cf, kf, fi, fd, cell, hi, (u_facts hfc hkC (u_lays C0.1.2.2.2.2 hin (k := 0) (by decide)) hi).1, q1, by rw [q3]; exact (fun h => by cases h), by rw [hsl]; exact q4 0 (by decide), hB.1⟩, ?_⟩
  refine ⟨_, hb, ?_, ?_, ?_, ?_, ?_, hB.2⟩
  · exact (C0.2.1.2 0 (g.2.2.1 11, .byte) rfl).1 bs.length (fun j => .int (f j))
  · exact fun h => by cases h
  · show bs.length ≤ (Array.ofFn _).size
    rw [Array.size_ofFn]
    exact Nat.le_refl _
  · show (Array.ofFn _).size.toInt32 = _
    rw [Array.size_ofFn]
  · intro j hj
    show (Array.ofFn _)[j]? = _
    rw [Array.getElem?_ofFn, dif_pos hj]
    show some (Value.int (f j)) = some (Value.int (bs.getD j 0))
    rw [hf j hj]
/-- a text constant, for all that leave the old cells alone -/
theorem zStr_c {B : Nat → Prop} {q : Int × Int × List Int32} (C0 : zC g A p s m args c cc nL own) (hq : q ∈ zTxt) (hS : va_S A s.heap H locs) (hAB : ∀ z, B z → A z) : zStr (g.2.2.2 q.1) (g.2.2.2 q.2.1) q.2.2 B s H := ((zc_x C0 hq).kept hS.2.1).narrow hAB
theorem zPreS_of (C0 : zC g A p s m args c cc nL own) (Wd : zW g A s.heap N ad M F H locs) (hS : ∀ q ∈ S, zStr q.1 q.2.1 q.2.2 (zA N ad H.size) s H) (av : List Value) : ∀ U : State, U.heap = H → s.WarmedH U.vm → va_Pc av (zPreS g N ad M F S H.size) av.toArray U := by
  intro U hU hW
  refine ⟨rfl, (zPre_of C0 Wd av U hU hW).2, fun q hq => ?_⟩
  rw [hU]
  exact zStr.moved hW.alike (hS q hq)
theorem zStr_in (C0 : zC g A p s m args c cc nL own) (Wd : zW g A s.heap N ad M F H locs) (hS : ∀ q ∈ S, zStr q.1 q.2.1 q.2.2 A s s.heap) : ∀ q ∈ S, zStr q.1 q.2.1 q.2.2 (zA N ad H.size) s H := fun q hq => ((hS q hq).kept Wd.1.2.2.2.1).narrow (zA_sub Wd C0.2.2.2)
theorem z_invVs {b : Nat} {C : String} {y : MethodName} {cc' : ByteArray} {nL' : Nat} {ret' : Option FieldType} {d n idx : Nat} {As : List Value} (C0 : zC g A p s m args c cc nL own) (Wd : zW g A s.heap N ad M F H locs) (hM : zMs l y cc' nL' ret' d mc ms g N ad S (.ref b :: As) M F post) (kv : zKV y cc' nL' ret' C n) (hS : ∀ q ∈ S, zStr q.1 q.2.1 q.2.2 A s s.heap) (hrecv : ∃ cell : Cell, H[b]? = some cell ∧ cell.vm.isStatics = false ∧ s.vm.findClass C = some cell.cls) (hlink : Cond.methodLink own idx y ∈ zT) (hn : As.length = n) (hsz : ls.size = nL) (hst0 : st0 = As.reverse ++ .ref b :: rest) (hst : (rest.map fun v => v.category).sum ≤ 8) (hR : d + 1 ≤ R.frames ∧ 8 + (nL' + 11) + 60 * d ≤ R.locals) (hf : cells + mc ≤ R.cells ∧ slots + ms ≤ R.slots) (hdg : decode cc pc = .ok (.invokevirtual idx, 3))
    (kk : ∀ (v : Option Value) (M' F' : zMem) (H1 : Heap) (locs1 : List Loc), post v M' F' → zW g A s.heap N ad M' F' H1 locs1 → W p l e R s m args below meth c H1 locs1 (cells + mc) (slots + ms) Q (F0 m (pc + 3) ls (v.toList ++ rest))) : W p l e R s m args below meth c H locs cells slots Q (F0 m pc ls st0) := by
  obtain ⟨k1, k2, k3, k4, k5, k6, k7⟩ := kv
  exact z_call (va_runV (As := As) (rest := rest) C0.1 (hM H.size) ⟨z_callB C0 k1 k4 ⟨k5, k6, k7⟩ hlink hR, C0.1.2.2.2.2 _ k2, C0.1.2.2.2.2 _ k3⟩ ⟨zPreS_blind, hrecv, zPreS_of C0 Wd (zStr_in C0 Wd hS) _⟩ rfl hn hsz hst0 (lv_room hst) hdg hf) C0 Wd kk
theorem z_invPs {b : Nat} {C : String} {y z : MethodName} {cc' : ByteArray} {nL' : Nat} {ret' : Option FieldType} {d n idx : Nat} {As : List Value} (C0 : zC g A p s m args c cc nL own) (Wd : zW g A s.heap N ad M F H locs) (hM : zMs l y cc' nL' ret' d mc ms g N ad S (.ref b :: As) M F post) (kv : zKP y z cc' nL' ret' C n) (hS : ∀ q ∈ S, zStr q.1 q.2.1 q.2.2 A s s.heap) (hrecv : ∃ cell : Cell, H[b]? = some cell ∧ cell.vm.isStatics = false ∧ s.vm.findClass C = some cell.cls) (hlink : Cond.methodLink own idx y ∈ zT) (hn : As.length = n) (hsz : ls.size = nL) (hst0 : st0 = As.reverse ++ .ref b :: rest) (hst : (rest.map fun v => v.category).sum ≤ 8) (hR : d + 1 ≤ R.frames ∧ 8 + (nL' + 11) + 60 * d ≤ R.locals) (hf : cells + mc ≤ R.cells ∧ slots + ms ≤ R.slots) (hdg : decode cc pc = .ok (.invokevirtual idx, 3))
    (kk : ∀ (v : Option Value) (M' F' : zMem) (H1 : Heap) (locs1 : List Loc), post v M' F' → zW g A s.heap N ad M' F' H1 locs1 → W p l e R s m args below meth c H1 locs1 (cells + mc) (slots + ms) Q (F0 m (pc + 3) ls (v.toList ++ rest))) : W p l e R s m args below meth c H locs cells slots Q (F0 m pc ls st0) := by
  obtain ⟨k1, k2, k3, k4, k5, k6, k7⟩ := kv
  have hsel : (Cond.selects C y y).before args s = true := z_selP (C0.1.2.2.2.2 _ k3.1) k3.2.1 (va_Nw.use rfl (zc_pr C0 k3.2.2)) (C0.1.2.2.2.2 _ k2) ⟨k5, k6⟩
  exact z_call (va_runV (As := As) (rest := rest) C0.1 (hM H.size) ⟨z_callB C0 k1 k4 ⟨k5, k6, k7⟩ hlink hR, C0.1.2.2.2.2 _ k2, hsel⟩ ⟨zPreS_blind, hrecv, zPreS_of C0 Wd (zStr_in C0 Wd hS) _⟩ rfl hn hsz hst0 (lv_room hst) hdg hf) C0 Wd kk
theorem z_invSs {y : MethodName} {cc' : ByteArray} {nL' : Nat} {ret' : Option FieldType} {d n idx : Nat} {As : List Value} (C0 : zC g A p s m args c cc nL own) (Wd : zW g A s.heap N ad M F H locs) (hM : zMs l y cc' nL' ret' d mc ms g N ad S As M F post) (kv : zKS y cc' nL' ret' n) (hS : ∀ q ∈ S, zStr q.1 q.2.1 q.2.2 A s s.heap) (hlink : Cond.methodLink own idx y ∈ zT) (hn : As.length = n) (hsz : ls.size = nL) (hst0 : st0 = As.reverse ++ rest) (hst : (rest.map fun v => v.category).sum ≤ 8) (hR : d + 1 ≤ R.frames ∧ 8 + (nL' + 11) + 60 * d ≤ R.locals) (hf : cells + mc ≤ R.cells ∧ slots + ms ≤ R.slots) (hdg : decode cc pc = .ok (.invokestatic idx, 3))
    (kk : ∀ (v : Option Value) (M' F' : zMem) (H1 : Heap) (locs1 : List Loc), post v M' F' → zW g A s.heap N ad M' F' H1 locs1 → W p l e R s m args below meth c H1 locs1 (cells + mc) (slots + ms) Q (F0 m (pc + 3) ls (v.toList ++ rest))) : W p l e R s m args below meth c H locs cells slots Q (F0 m pc ls st0) := by
  obtain ⟨k1, k2, k3, k4, k5, k6⟩ := kv
  exact z_call (va_runS (As := As) (rest := rest) C0.1 (hM H.size) ⟨z_callB C0 k1 k3 ⟨k4, k5, k6⟩ hlink hR, C0.1.2.2.2.2 _ k2⟩ ⟨zPreS_blind, zPreS_of C0 Wd (zStr_in C0 Wd hS) _⟩ rfl hn hsz hst0 (lv_room hst) hdg hf) C0 Wd kk
/-- a call over a part of the world: what it doesn't own stands -/
theorem r_part (Wd : rW g A s.heap (wr ++ wl g N ad M F) H locs) (hA : ∀ q, s.heap.size ≤ q → A q) : ∀ q, zA N ad H.size q → A q := fun q h => rA_sub Wd hA q (zA_iff.mp h)
theorem r_zpre (C0 : zC g A p s m args c cc nL own) (Wd : rW g A s.heap (wr ++ wl g N ad M F) H locs) (hM : zRM M) (hS : ∀ q ∈ S, zStr q.1 q.2.1 q.2.2 (zA N ad H.size) s H) (av : List Value) : ∀ U : State, U.heap = H → s.WarmedH U.vm → va_Pc av (zPreS g N ad M F S H.size) av.toArray U := by
  intro U hU hW
  have at1 : ∀ (k : Nat) (q : Nat × va_E), (wl g N ad M F)[k]? = some q → (wr ++ wl g N ad M F)[wr.length + k]? = some q := fun k q hq => by
    rw [List.getElem?_append_right (by omega), show wr.length + k - wr.length = k by omega]
    exact hq
  refine ⟨rfl, ⟨by rw [hU], by rw [hU]; exact fun k q hq => Wd.1 _ q (at1 k q hq), va_K.moved hW.alike C0.2.1, ⟨fun i j x y hx hy e => ?_, fun _ _ _ => trivial⟩, hM, zS.pass C0.2.2.1 Wd.2.2 hW.alike (fun h => zSb.warm hW h) hU (r_part Wd C0.2.2.2)⟩, fun q hq => ?_⟩
  · have := Wd.2.1.1 _ _ x y (at1 i x hx) (at1 j y hy) e
    omega
  · rw [hU]
    exact zStr.moved hW.alike (hS q hq)
theorem r_callZ (hr : va_Run p l e R s m args below meth c H locs cells slots mc ms (F0 m pc ls st0) rest (zQ g N ad H.size post a) (zA N ad H.size)) (C0 : zC g A p s m args c cc nL own) (Wd : rW g A s.heap (wr ++ wl g N ad M F) H locs)
    (kk : ∀ (v : Option Value) (M' F' : zMem) (H1 : Heap) (locs1 : List Loc), post v M' F' → zRM M' → rW g A s.heap (wr ++ wl g N ad M' F') H1 locs1 → W p l e R s m args below meth c H1 locs1 (cells + mc) (slots + ms) Q (F0 m (pc + 3) ls (v.toList ++ rest))) : W p l e R s m args below meth c H locs cells slots Q (F0 m pc ls st0) := by
  have hsub := r_part Wd C0.2.2.2
  intro T hT X
  obtain ⟨v, st₀, t, T', L, h0, X', hL, e1, e2, ⟨⟨v', M', F', hv, hp, hP1, hD1, hR1⟩, hz, hk⟩, st⟩ := hr T hT X
  cases hv
  rw [h0] at hz hk
  obtain ⟨j1, j2⟩ := r_join (w1 := wl g N ad M' F') Wd.1 Wd.2.1 (H1 := T'.heap) (fun q h1 h2 => by rw [e1]; exact hk q h1 (fun z => h2 (zA_iff.mp z))) (fun q h => hsub q (zA_iff.mpr h)) (by rw [e1]; exact hP1) (hD1.weaken (fun _ q _ h => zA_iff.mp h))
  obtain ⟨t2, a1, b1⟩ := kk v M' F' T'.heap (locs ++ L) hp hR1 ⟨j1, j2, Nat.le_trans Wd.2.2.1 (by rw [e1]; exact hz), fun q h1 h2 => by rw [e1, hk q (Nat.lt_of_lt_of_le h1 Wd.2.2.1) (fun z => h2 (hsub q z))]; exact Wd.2.2.2.1 q h1 h2, fun q hq => by
      rcases List.mem_append.mp hq with h | h
      · exact Wd.2.2.2.2 q h
      · exact hsub _ (hL q h)⟩ T' rfl X'
  exact ⟨t2, st t2 a1, b1⟩
theorem r_invVs {b : Nat} {C : String} {y : MethodName} {cc' : ByteArray} {nL' : Nat} {ret' : Option FieldType} {d n idx : Nat} {As : List Value} (C0 : zC g A p s m args c cc nL own) (Wd : rW g A s.heap (wr ++ wl g N ad M F) H locs) (hRM : zRM M) (hM : zMs l y cc' nL' ret' d mc ms g N ad S (.ref b :: As) M F post) (kv : zKV y cc' nL' ret' C n) (hS : ∀ q ∈ S, zStr q.1 q.2.1 q.2.2 (zA N ad H.size) s H) (hrecv : ∃ cell : Cell, H[b]? = some cell ∧ cell.vm.isStatics = false ∧ s.vm.findClass C = some cell.cls) (hlink : Cond.methodLink own idx y ∈ zT) (hn : As.length = n) (hsz : ls.size = nL) (hst0 : st0 = As.reverse ++ .ref b :: rest) (hst : (rest.map fun v => v.category).sum ≤ 8) (hR : d + 1 ≤ R.frames ∧ 8 + (nL' + 11) + 60 * d ≤ R.locals) (hf : cells + mc ≤ R.cells ∧ slots + ms ≤ R.slots) (hdg : decode cc pc = .ok (.invokevirtual idx, 3))
    (kk : ∀ (v : Option Value) (M' F' : zMem) (H1 : Heap) (locs1 : List Loc), post v M' F' → zRM M' → rW g A s.heap (wr ++ wl g N ad M' F') H1 locs1 → W p l e R s m args below meth c H1 locs1 (cells + mc) (slots + ms) Q (F0 m (pc + 3) ls (v.toList ++ rest))) : W p l e R s m args below meth c H locs cells slots Q (F0 m pc ls st0) := by
  obtain ⟨k1, k2, k3, k4, k5, k6, k7⟩ := kv
  exact r_callZ (va_runV (As := As) (rest := rest) C0.1 (hM H.size) ⟨z_callB C0 k1 k4 ⟨k5, k6, k7⟩ hlink hR, C0.1.2.2.2.2 _ k2, C0.1.2.2.2.2 _ k3⟩ ⟨zPreS_blind, hrecv, r_zpre C0 Wd hRM hS _⟩ rfl hn hsz hst0 (lv_room hst) hdg hf) C0 Wd kk
/-- a contract that reads no String -/
theorem zMs_of_t {y : MethodName} {cc' : ByteArray} {nL' : Nat} {ret' : Option FieldType} {d : Nat} {av : List Value} (h : zMt l y cc' nL' ret' d mc ms g N ad av M F post) : zMs l y cc' nL' ret' d mc ms g N ad S av M F post :=
  fun sz => Jvm.Free.MetFree.mono (h sz) (fun _ _ z => ⟨z.1, z.2.1⟩) (fun _ _ _ _ _ z => z) (fun _ _ _ _ _ z => z)
end ZSTR
