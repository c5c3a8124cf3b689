/-! a small world, at chosen places -/
def yl (g : zG) (L : List Int) (ad : Int → Nat) (M F : zMem) : va_W := L.map (fun i => (ad i, zE g ad i (M i) (F i)))
theorem yl_get {g : zG} {L : List Int} {ad : Int → Nat} {M F : zMem} {i : Int} (h : i ∈ L) : (yl g L ad M F)[L.idxOf i]? = some (ad i, zE g ad i (M i) (F i)) := by
  have h1 : L.idxOf i < L.length := List.idxOf_lt_length_iff.mpr h
  unfold yl
  rw [List.getElem?_map, List.getElem?_eq_getElem h1, List.getElem_idxOf h1]
  rfl
theorem yl_put {g : zG} {L : List Int} (hn : L.Nodup) {ad : Int → Nat} {M F M' F' : zMem} {i : Int} {e : va_E} (h : i ∈ L) (he : zE g ad i (M' i) (F' i) = e) (hM : ∀ a, a ≠ i → M' a = M a) (hF : ∀ a, a ≠ i → F' a = F a) : (yl g L ad M F).set (L.idxOf i) (ad i, e) = yl g L ad M' F' := by
  have h1 : L.idxOf i < L.length := List.idxOf_lt_length_iff.mpr h
  apply List.ext_getElem?
  intro k
  by_cases hk : k = L.idxOf i
  · subst hk
    rw [List.getElem?_set_self (by simp [yl]; exact h1), yl_get h, he]
  · rw [List.getElem?_set_ne (Ne.symm hk)]
    unfold yl
    rw [List.getElem?_map, List.getElem?_map]
    by_cases hl : k < L.length
    · rw [List.getElem?_eq_getElem hl]
      have hki : L[k] ≠ i := by
        intro q
        apply hk
        have := hn.idxOf_getElem k hl
        rw [q] at this
        exact this.symm
      show some (ad L[k], zE g ad L[k] (M L[k]) (F L[k])) = some (ad L[k], zE g ad L[k] (M' L[k]) (F' L[k]))
      rw [hM _ hki, hF _ hki]
    · rw [List.getElem?_eq_none (by omega)]
      rfl
abbrev yA (L : List Int) (ad : Int → Nat) (sz : Nat) : Nat → Prop := fun q => (∃ i ∈ L, q = ad i) ∨ sz ≤ q
def yW (g : zG) (A : Nat → Prop) (H0 : Heap) (L : List Int) (ad : Int → Nat) (M F : zMem) (H : Heap) (locs : List Loc) : Prop :=
  (va_P (g.1, g.2.1) zCl (yl g L ad M F) H ∧ va_D A (yl g L ad M F) ∧ va_S A H0 H locs) ∧ zRM M
theorem yW.rm {g : zG} {A : Nat → Prop} {H0 : Heap} {L : List Int} {ad : Int → Nat} {M F : zMem} {H : Heap} {locs : List Loc} (h : yW g A H0 L ad M F H locs) (i j : Int) : zR (M i j) := h.2 i j
theorem yW.inA {g : zG} {A : Nat → Prop} {H0 : Heap} {L : List Int} {ad : Int → Nat} {M F : zMem} {H : Heap} {locs : List Loc} (h : yW g A H0 L ad M F H locs) {i : Int} (hi : i ∈ L) : A (ad i) := h.1.2.1.2 _ _ (yl_get hi)
theorem yW.mem {g : zG} {A : Nat → Prop} {H0 : Heap} {L : List Int} {ad : Int → Nat} {M M' F : zMem} {H : Heap} {locs : List Loc} (h : yW g A H0 L ad M F H locs) (e : M = M') : yW g A H0 L ad M' F H locs := by
  rw [← e]
  exact h
def yPre (g : zG) (L : List Int) (ad : Int → Nat) (M F : zMem) (sz : Nat) (U : State) : Prop :=
  U.heap.size = sz ∧ va_P (g.1, g.2.1) zCl (yl g L ad M F) U.heap ∧ va_K (g.1, g.2.1) zCl (zty g) U ∧ va_D (fun _ => True) (yl g L ad M F) ∧ zRM M ∧ zS g (yA L ad sz) U U.heap
def yQ (g : zG) (L : List Int) (ad : Int → Nat) (sz : Nat) (post : Option Value → zMem → zMem → Prop) : Array Value → State → Outcome → State → Prop := fun _ st o t =>
  (∃ (v : Option Value) (M F : zMem), o = .returned v ∧ post v M F ∧ va_P (g.1, g.2.1) zCl (yl g L ad M F) t.heap ∧ va_D (yA L ad sz) (yl g L ad M F) ∧ zRM M) ∧ va_F (yA L ad sz) st t
def yMt (l : Launch) (y : MethodName) (cc : ByteArray) (nL : Nat) (ret : Option FieldType) (d mc ms : Nat) (g : zG) (L : List Int) (ad : Int → Nat) (av : List Value) (M F : zMem) (post : Option Value → zMem → zMem → Prop) : Prop :=
  ∀ sz, Met l y (Cond.code y cc nL ret :: zT) (zrm d mc ms) (va_Pc av (yPre g L ad M F sz)) (yQ g L ad sz post) mc ms (yA L ad sz)
abbrev yMQ (below : List Frame) (g : zG) (L : List Int) (ad : Int → Nat) (post : Option Value → zMem → zMem → Prop) (args : Array Value) (s : State) (mc ms : Nat) : State → Prop := MQ below (yQ g L ad s.heap.size post) args s mc ms (yA L ad s.heap.size)
theorem yPre_blind {g : zG} {L : List Int} {ad : Int → Nat} {M F : zMem} {sz : Nat} {av : List Value} : FrameBlind (va_Pc av (yPre g L ad M F sz)) := by
  intro a U fr mk q
  obtain ⟨q0, q1, q2, q3, q4, q5, q6⟩ := q
  refine ⟨q0, q1, q2, va_K.moved (u := U) (U := U.calling fr mk a) (Vm.Alike.refl U.vm) q3, q4, q5, ?_⟩
  exact zS.pass (s := U) (U := U.calling fr mk a) q6 (va_S.rf) (Vm.Alike.refl U.vm) (fun h => zSb.same rfl h) rfl (fun _ h => h)
theorem yA_sub {g : zG} {A : Nat → Prop} {H0 : Heap} {L : List Int} {ad : Int → Nat} {M F : zMem} {H : Heap} {locs : List Loc} (Wd : yW g A H0 L ad M F H locs) (hA : ∀ q, H0.size ≤ q → A q) : ∀ q, yA L ad H.size q → A q := by
  intro q h
  rcases h with ⟨i, hi, rfl⟩ | h
  · exact Wd.inA hi
  · exact hA q (Nat.le_trans Wd.1.2.2.1 h)
theorem yMt.of {l : Launch} {y : MethodName} {cc : ByteArray} {nL : Nat} {ret : Option FieldType} {d mc ms : Nat} {g : zG} {L : List Int} {ad : Int → Nat} {av : List Value} {M F : zMem} {post : Option Value → zMem → zMem → Prop} (own : String) (hown : y.cls = own) (hy : plainName y.cls = true) (hlen : (lg_sl av).length ≤ nL)
    (body : ∀ {p : Program} {e : Env} {s : State} {m : MethodId} {args : Array Value} {below : List Frame} {meth : Method} {c : Code} {ls : Array Slot}, zC g (yA L ad s.heap.size) p s m args c cc nL own → yW g (yA L ad s.heap.size) s.heap L ad M F s.heap [] → lv_has ls nL (lv_args 0 av) → meth.sig.returnType = ret → meth.locks = false → (y.name = "<init>" → meth.name = "<init>") →
      W p l e (zrm d mc ms) s m args below meth c s.heap [] 0 0 (yMQ below g L ad post args s mc ms) (F0 m 0 ls [])) : yMt l y cc nL ret d mc ms g L ad av M F post := by
  intro sz
  refine Met.ofW (cc := cc) (maxL := nL) (ret := ret) hy rfl ?_
  intro p e s m args below meth c s₁ B hml hv
  obtain ⟨rfl, hsz, hP, hK, hD0, hRM, hZ⟩ := hv
  subst hsz
  have hts := atoms_spec (ws := Cond.code y cc nL ret :: zT) B.pre
  have hl := lv_entry av (n := nL) hlen
  rw [lg_entry_eq]
  generalize (lg_sl av ++ List.replicate (nL - (lg_sl av).length) Slot.unset).toArray = ls at hl ⊢
  have hD : va_D (yA L ad s.heap.size) (yl g L ad M F) := hD0.weaken (fun k q hk _ => by
    unfold yl at hk
    rw [List.getElem?_map] at hk
    cases hl : L[k]? with
    | none => rw [hl] at hk; cases hk
    | some i =>
      rw [hl] at hk
      exact Or.inl ⟨i, List.mem_of_getElem? hl, by rw [← Option.some.inj hk]⟩)
  exact body ⟨⟨B.exec, B.bytes, hml, by rw [← hown]; exact findClass_of_methodNamed B.named, fun w hw => hts w (List.mem_cons_of_mem _ hw)⟩, hK, hZ, fun q h => Or.inr h⟩ ⟨⟨hP, hD, va_S.rf⟩, hRM⟩ hl B.returns B.notSynchronized (fun h => by rw [← h]; exact (name_of_methodNamed B.named B.method).1)
/-- the burrow's places of the State at b -/
abbrev yb (b : Int) : List Int := [b + 1, b + 2, b + 3, b + 4]
theorem yb_nd {b : Int} : (yb b).Nodup := by
  simp only [yb, List.nodup_cons, List.mem_cons, List.not_mem_nil, or_false, not_or]
  refine ⟨by omega, by omega, by omega, not_false, List.nodup_nil⟩
theorem ynB1 (b : Int) : b + 1 ∈ yb b := List.mem_cons_self
theorem ynB2 (b : Int) : b + 2 ∈ yb b := List.mem_cons_of_mem _ List.mem_cons_self
theorem ynB3 (b : Int) : b + 3 ∈ yb b := List.mem_cons_of_mem _ (List.mem_cons_of_mem _ List.mem_cons_self)
theorem ynB4 (b : Int) : b + 4 ∈ yb b := List.mem_cons_of_mem _ (List.mem_cons_of_mem _ (List.mem_cons_of_mem _ List.mem_cons_self))
section YL

variable {g : zG} {A : Nat → Prop} {p : Program} {l : Launch} {e : Env} {R : Room} {s : State} {m : MethodId} {args : Array Value} {below : List Frame} {meth : Method} {c : Code} {H : Heap} {locs : List Loc} {cells slots : Nat} {Q : State → Prop}
variable {cc : ByteArray} {nL : Nat} {own : String} {pc : Nat} {ls : Array Slot} {rest st0 : List Value} {L : List Int} {ad : Int → Nat} {M F : zMem}
variable {mc ms : Nat} {a : Array Value}

variable {post : Option Value → zMem → zMem → Prop}
theorem y_call (hr : va_Run p l e R s m args below meth c H locs cells slots mc ms (F0 m pc ls st0) rest (yQ g L ad H.size post a) (yA L ad H.size)) (C0 : zC g A p s m args c cc nL own) (Wd : yW g A s.heap L ad M F H locs)
    (kk : ∀ (v : Option Value) (M' F' : zMem) (H1 : Heap) (locs1 : List Loc), post v M' F' → yW g A s.heap L ad M' F' H1 locs1 → W p l e R s m args below meth c H1 locs1 (cells + mc) (slots + ms) Q (F0 m (pc + 3) ls (v.toList ++ rest))) : W p l e R s m args below meth c H locs cells slots Q (F0 m pc ls st0) := by
  have hsub := yA_sub Wd C0.2.2.2
  intro T hT X
  obtain ⟨v, st₀, t, T', Lo, h0, X', hL, e1, e2, ⟨⟨v', M', F', hv, hp, hP1, hD1, hR1⟩, hz, hk⟩, st⟩ := hr T hT X
  cases hv
  rw [h0] at hz hk
  obtain ⟨t2, a1, b1⟩ := kk v M' F' T'.heap (locs ++ Lo) hp ⟨⟨by rw [e1]; exact hP1, hD1.weaken (fun _ q _ h => hsub q.1 h), Nat.le_trans Wd.1.2.2.1 (by rw [e1]; exact hz), fun q h1 h2 => by rw [e1, hk q (Nat.lt_of_lt_of_le h1 Wd.1.2.2.1) (fun z => h2 (hsub q z))]; exact Wd.1.2.2.2.1 q h1 h2, fun q hq => by
      rcases List.mem_append.mp hq with h | h
      · exact Wd.1.2.2.2.2 q h
      · exact hsub _ (hL q h)⟩, hR1⟩ T' rfl X'
  exact ⟨t2, st t2 a1, b1⟩
theorem yPre_of (C0 : zC g A p s m args c cc nL own) (Wd : yW g A s.heap L ad M F H locs) (av : List Value) : ∀ U : State, U.heap = H → s.WarmedH U.vm → va_Pc av (yPre g L ad M F H.size) av.toArray U := by
  intro U hU hW
  subst hU
  exact ⟨rfl, rfl, Wd.1.1, va_K.moved hW.alike C0.2.1, Wd.1.2.1.weaken (fun _ _ _ _ => trivial), Wd.2, zS.pass C0.2.2.1 Wd.1.2.2 hW.alike (fun h => zSb.warm hW h) rfl (yA_sub Wd C0.2.2.2)⟩
theorem y_invVv {P : zMem → zMem → Prop} {y : MethodName} {cc' : ByteArray} {nL' : Nat} {ret' : Option FieldType} {d n idx ci Nf : Nat} {i : Int} {C : String} {T : u_T} {fs As : List Value} (C0 : zC g A p s m args c cc nL own) (Wd : yW g A s.heap L ad M F H locs) (hM : yMt l y cc' nL' ret' d mc ms g L ad (.ref (ad i) :: As) M F (zPv P)) (kv : zKV y cc' nL' ret' C n) (hi : i ∈ L) (he : zE g ad i (M i) (F i) = .inr (ci, fs)) (hc : zCl[ci]? = some (C, T, Nf)) (hlink : Cond.methodLink own idx y ∈ zT) (hn : As.length = n) (hsz : ls.size = nL) (hst0 : st0 = As.reverse ++ .ref (ad i) :: rest) (hst : (rest.map fun v => v.category).sum ≤ 8) (hR : d + 1 ≤ R.frames ∧ 8 + (nL' + 11) + 60 * d ≤ R.locals) (hf : cells + mc ≤ R.cells ∧ slots + ms ≤ R.slots) (hdg : decode cc pc = .ok (.invokevirtual idx, 3))
    (kk : ∀ (M' F' : zMem) (H1 : Heap) (locs1 : List Loc), P M' F' → yW g A s.heap L ad M' F' H1 locs1 → W p l e R s m args below meth c H1 locs1 (cells + mc) (slots + ms) Q (F0 m (pc + 3) ls rest)) : W p l e R s m args below meth c H locs cells slots Q (F0 m pc ls st0) := by
  obtain ⟨k1, k2, k3, k4, k5, k6, k7⟩ := kv
  refine y_call (va_runV (As := As) (rest := rest) C0.1 (hM H.size) ⟨z_callB C0 k1 k4 ⟨k5, k6, k7⟩ hlink hR, C0.1.2.2.2.2 _ k2, C0.1.2.2.2.2 _ k3⟩ ⟨yPre_blind, va_recv C0.2.1 Wd.1.1 (ci := ci) (q0 := L.idxOf i) hc (by rw [yl_get hi, he]), yPre_of C0 Wd _⟩ rfl hn hsz hst0 (lv_room hst) hdg hf) C0 Wd (fun v M' F' H1 locs1 hp hw => ?_)
  obtain ⟨rfl, hp⟩ := hp
  exact kk M' F' H1 locs1 hp hw
theorem y_vret {P : zMem → zMem → Prop} (C0 : zC g (yA L ad s.heap.size) p s m args c cc nL own) (Wd : yW g (yA L ad s.heap.size) s.heap L ad M F H locs) (hr : meth.sig.returnType = none) (hlk : meth.locks = false) (hp : P M F) (hdg : decode cc pc = .ok (.return_, 1)) : W p l e R s m args below meth c H locs cells slots (yMQ below g L ad (zPv P) args s cells slots) (F0 m pc ls []) :=
  W.vret C0.1.1 C0.1.2.1 hr (fun t ht hW => ⟨⟨none, M, F, rfl, ⟨rfl, hp⟩, by rw [ht]; exact Wd.1.1, Wd.1.2.1, Wd.2⟩, Wd.1.2.2.F ht⟩) Wd.1.2.2.2.2 hdg hlk
theorem y_get (C0 : zC g A p s m args c cc nL own) (Wd : yW g A s.heap L ad M F H locs) {i : Int} {ci j index Nf : Nat} {ref C : String} {T : u_T} {fs : List Value} {v : Value} (hi : i ∈ L) (he : zE g ad i (M i) (F i) = .inr (ci, fs)) (hc : zCl[ci]? = some (C, T, Nf)) (hin : ∀ w ∈ u_ws C T Nf, w ∈ zT) (hj : j < Nf) (hlink : Cond.fieldLink own index ref (T j).2.1 (T j).2.2.1 ∈ zT) (hsame : ∀ x, s.fieldFound? (T j).1 (T j).2.1 (T j).2.2.1 = some x → s.fieldFound? ref (T j).2.1 (T j).2.2.1 = some x) (hv : fs[j]? = some v) (hdg : decode cc pc = .ok (.getfield index, 3)) (kk : W p l e R s m args below meth c H locs cells slots Q (F0 m (pc + 3) ls (v :: rest))) : W p l e R s m args below meth c H locs cells slots Q (F0 m pc ls (.ref (ad i) :: rest)) :=
  va_get C0.1.1 C0.1.2.1 C0.1.2.2.2.2 hin C0.1.2.2.2.1 C0.2.1 Wd.1.1 (L.idxOf i) (by rw [yl_get hi, he]) hc j hj (C0.1.2.2.2.2 _ hlink) hsame hv hdg kk
theorem yg_1_2 (C0 : zC g A p s m args c cc nL own) (Wd : yW g A s.heap L ad M F H locs) {i : Int} (hi : i ∈ L) (hk : zkd i = 1) {index : Nat} (hlink : Cond.fieldLink own index "DrumWarren$Burrow" "tunnelDelays" "[I" ∈ zT) (hdg : decode cc pc = .ok (.getfield index, 3)) (kk : W p l e R s m args below meth c H locs cells slots Q (F0 m (pc + 3) ls (.ref (ad (i + 1)) :: rest))) : W p l e R s m args below meth c H locs cells slots Q (F0 m pc ls (.ref (ad i) :: rest)) := y_get (j := 2) (v := .ref (ad (i + 1))) C0 Wd hi (zE_1 hk) rfl inZ_1 (by decide) hlink (fun _ h => h) rfl hdg kk
theorem yg_1_3 (C0 : zC g A p s m args c cc nL own) (Wd : yW g A s.heap L ad M F H locs) {i : Int} (hi : i ∈ L) (hk : zkd i = 1) {index : Nat} (hlink : Cond.fieldLink own index "DrumWarren$Burrow" "wayDelays" "[I" ∈ zT) (hdg : decode cc pc = .ok (.getfield index, 3)) (kk : W p l e R s m args below meth c H locs cells slots Q (F0 m (pc + 3) ls (.ref (ad (i + 2)) :: rest))) : W p l e R s m args below meth c H locs cells slots Q (F0 m pc ls (.ref (ad i) :: rest)) := y_get (j := 3) (v := .ref (ad (i + 2))) C0 Wd hi (zE_1 hk) rfl inZ_1 (by decide) hlink (fun _ h => h) rfl hdg kk
theorem y_iald (C0 : zC g A p s m args c cc nL own) (Wd : yW g A s.heap L ad M F H locs) {i : Int} {n : Nat} {t : Int} (hi : i ∈ L) (hk : zkd i = 13) (hn : zln i = n) (h0 : 0 ≤ t) (h1 : t < (n : Int)) (hN : n ≤ 2147483647) (hdg : decode cc pc = .ok (.iaload, 1)) (kk : W p l e R s m args below meth c H locs cells slots Q (F0 m (pc + 1) ls (.int (zI (M i t)) :: rest))) : W p l e R s m args below meth c H locs cells slots Q (F0 m pc ls (.int (zI t) :: .ref (ad i) :: rest)) := by
  refine va_iald C0.1.1 C0.1.2.1 C0.2.1 Wd.1.1 (L.idxOf i) 2 (by rw [yl_get hi, zE_13 hk, hn]) rfl (zI_in h0 h1 (by omega)) hdg ?_
  rw [zRow_at h0 (by omega)]
  exact kk
theorem y_iast (hnd : L.Nodup) (C0 : zC g A p s m args c cc nL own) (Wd : yW g A s.heap L ad M F H locs) {i : Int} {n : Nat} {t v : Int} (hi : i ∈ L) (hk : zkd i = 13) (hn : zln i = n) (h0 : 0 ≤ t) (h1 : t < (n : Int)) (hN : n ≤ 2147483647) (hv : zR v) (hdg : decode cc pc = .ok (.iastore, 1)) (kk : ∀ (H1 : Heap) (locs1 : List Loc), yW g A s.heap L ad (zu M i t v) F H1 locs1 → W p l e R s m args below meth c H1 locs1 cells slots Q (F0 m (pc + 1) ls rest)) : W p l e R s m args below meth c H locs cells slots Q (F0 m pc ls (.int (zI v) :: .int (zI t) :: .ref (ad i) :: rest)) := by
  refine va_iast C0.1.1 C0.1.2.1 C0.2.1 Wd.1.1 Wd.1.2.1 Wd.1.2.2 (L.idxOf i) 2 (by rw [yl_get hi, zE_13 hk, hn]) rfl (zI_in h0 h1 (by omega)) hdg (fun H1 locs1 hP hD hS => ?_)
  rw [zRow_upd h0 (by omega)] at hP hD
  rw [yl_put hnd (M' := zu M i t v) (F' := F) hi (by rw [zE_13 hk, hn, zu_self]) (fun a ha => zu_row ha) (fun _ _ => rfl)] at hP hD
  exact kk H1 locs1 ⟨⟨hP, hD, hS⟩, zRM_zu Wd.2 hv⟩
end YL
set_option maxHeartbeats 4000000 in
set_option maxRecDepth 100000 in
theorem cy_X2_improveFrom (l : Launch) (g : zG) (ad : Int → Nat) (zM0 zF0 : zMem) (b : Int) (hb : zB b) (zwr : Int → Int) (x0 : Int) (hx0 : zR x0) (x1 : Int) (hx1 : zR x1) (hW : zM0 (b + 3) = zwr) (h0 : zc8 x0) (h1 : zc8 x1) (hB : zb64 zwr) : yMt l yX2_improveFrom cX2_improveFrom 6 none 0 0 0 g (yb b) ad [.ref (ad (b + 1)), .int (zI x0), .int (zI x1)] zM0 zF0 (zPv (fun M' F' => (zrow zM0 (b + 3) (zfF x0 x1 (zwr (8 * x0 + x1)) 8 zwr)) = M' ∧ zF0 = F')) := by
  refine yMt.of "DrumWarren$Burrow" rfl (by decide +kernel) (Nat.le_of_ble_eq_true rfl) (fun {p e s m args below meth c ls} C0 Wd hl hret hlk hin => ?_)
  have hl : lv_has ls 6 [(0, .ref (ad (b + 1))), (1, .int (zI x0)), (2, .int (zI x1))] := hl
  have h0a := h0.1
  have h0b := h0.2
  have h1a := h1.1
  have h1b := h1.2
  have hfp := hB (8 * x0 + x1) (by omega) (by omega)
  refine z_aload_n C0 hl 0 rfl dX2_improveFrom_0 ?_
  refine yg_1_3 C0 Wd (ynB1 b) (zkB1 hb) zk_99 dX2_improveFrom_1 ?_
  refine z_rf (show ((b + 1) + 2) = (b + 3) by omega) ?_
  refine z_iload_n C0 hl 1 rfl dX2_improveFrom_4 ?_
  refine z_bipush C0 dX2_improveFrom_5 (by decide) ?_
  refine z_imul C0 dX2_improveFrom_7 ?_
  refine z_iload_n C0 hl 2 rfl dX2_improveFrom_8 ?_
  refine z_iadd C0 dX2_improveFrom_9 ?_
  refine y_iald C0 Wd (ynB3 b) (zkB3 hb) (zlB3 hb) (by omega) (by omega) (by decide) dX2_improveFrom_10 ?_
  obtain ⟨he2, hz1⟩ : (zM0 (b + 3) ((x0 * 8) + x1)) = (zwr (8 * x0 + x1)) ∧ zR (zwr (8 * x0 + x1)) := (fun q => ⟨q, q ▸ Wd.rm _ _⟩) (by rw [hW, Int.mul_comm])
  refine z_top (congrArg zI he2) ?_
  clear he2
  refine z_istore_n C0 hl [(3, .int (zI (zwr (8 * x0 + x1)))), (0, .ref (ad (b + 1))), (1, .int (zI x0)), (2, .int (zI x1))] (by decide) rfl dX2_improveFrom_11 (fun ls hl => ?_)
  refine z_iconst C0 dX2_improveFrom_12 ?_
  refine z_istore C0 hl [(4, .int (zI 0)), (3, .int (zI (zwr (8 * x0 + x1)))), (0, .ref (ad (b + 1))), (1, .int (zI x0)), (2, .int (zI x1))] (by decide) rfl dX2_improveFrom_13 (fun ls hl => ?_)
  have aft15 : ∀ (k15 : Nat) (hk15 : (k15 : Int) ≤ 8) (v15 : Int → Int) (hv : v15 = zfF x0 x1 (zwr (8 * x0 + x1)) k15 zwr) (hx15 : (k15 : Int) = 8) (H : Heap) (locs : List Loc) (ls : Array Slot) (Wd : yW g (yA (yb b) ad s.heap.size) s.heap (yb b) ad (zrow zM0 (b + 3) v15) zF0 H locs) (hl : lv_has ls 6 [(0, .ref (ad (b + 1))), (1, .int (zI x0)), (2, .int (zI x1)), (3, .int (zI (zwr (8 * x0 + x1)))), (4, .int (zI (k15 : Int)))]), W p l e (zrm 0 0 0) s m args below meth c H locs 0 0 (yMQ below g (yb b) ad (zPv (fun M' F' => (zrow zM0 (b + 3) (zfF x0 x1 (zwr (8 * x0 + x1)) 8 zwr)) = M' ∧ zF0 = F')) args s 0 0) (F0 m 75 ls []) := by
    intro k15 hk15 v15 hv hx15 H locs ls Wd hl
    replace hl : lv_has ls 6 [(0, .ref (ad (b + 1))), (1, .int (zI x0)), (2, .int (zI x1)), (3, .int (zI (zwr (8 * x0 + x1))))] := lv_sub hl [0, 1, 2, 3] rfl
    obtain rfl : k15 = 8 := by omega
    exact y_vret C0 Wd hret hlk ⟨by rw [hv], rfl⟩ dX2_improveFrom_75
  have lp15 : ∀ (d15 k15 : Nat) (hk15 : (k15 : Int) + d15 = 8) (v15 : Int → Int) (hv : v15 = zfF x0 x1 (zwr (8 * x0 + x1)) k15 zwr) (H : Heap) (locs : List Loc) (ls : Array Slot) (Wd : yW g (yA (yb b) ad s.heap.size) s.heap (yb b) ad (zrow zM0 (b + 3) v15) zF0 H locs) (hl : lv_has ls 6 [(0, .ref (ad (b + 1))), (1, .int (zI x0)), (2, .int (zI x1)), (3, .int (zI (zwr (8 * x0 + x1)))), (4, .int (zI (k15 : Int)))]), W p l e (zrm 0 0 0) s m args below meth c H locs 0 0 (yMQ below g (yb b) ad (zPv (fun M' F' => (zrow zM0 (b + 3) (zfF x0 x1 (zwr (8 * x0 + x1)) 8 zwr)) = M' ∧ zF0 = F')) args s 0 0) (F0 m 15 ls []) := by
    intro d15
    induction d15 with
    | zero =>
      intro k15 hk15 v15 hv H locs ls Wd hl
      have hbv := zfF_bd h0 h1 hfp.1 hB k15 (by omega)
      rw [← hv] at hbv
      refine z_iload C0 hl 4 rfl dX2_improveFrom_15 ?_
      refine z_bipush C0 dX2_improveFrom_17 (by decide) ?_
      refine z_icmp_ge C0 (tgt := 75) (zR_mk (by omega) (by omega)) (zR_mk (by decide) (by decide)) dX2_improveFrom_19 (by decide) (fun c3 => ?_) (fun c3 => ?_)
      · skip
        first | exact aft15 k15 (by omega) v15 hv (by first | assumption | omega) _ _ _ Wd (lv_sub hl [0, 1, 2, 3, 4] rfl) | (exfalso; omega)
      · skip
        exfalso; omega
    | succ d15 ih15 =>
      intro k15 hk15 v15 hv H locs ls Wd hl
      have hbv := zfF_bd h0 h1 hfp.1 hB k15 (by omega)
      rw [← hv] at hbv
      refine z_iload C0 hl 4 rfl dX2_improveFrom_15 ?_
      refine z_bipush C0 dX2_improveFrom_17 (by decide) ?_
      refine z_icmp_ge C0 (tgt := 75) (zR_mk (by omega) (by omega)) (zR_mk (by decide) (by decide)) dX2_improveFrom_19 (by decide) (fun c4 => ?_) (fun c4 => ?_)
      · skip
        first | exact aft15 k15 (by omega) v15 hv (by first | assumption | omega) _ _ _ Wd (lv_sub hl [0, 1, 2, 3, 4] rfl) | (exfalso; omega)
      · skip
        refine z_iload_n C0 hl 3 rfl dX2_improveFrom_22 ?_
        refine z_aload_n C0 hl 0 rfl dX2_improveFrom_23 ?_
        refine yg_1_3 C0 Wd (ynB1 b) (zkB1 hb) zk_99 dX2_improveFrom_24 ?_
        refine z_rf (show ((b + 1) + 2) = (b + 3) by omega) ?_
        refine z_iload_n C0 hl 2 rfl dX2_improveFrom_27 ?_
        refine z_bipush C0 dX2_improveFrom_28 (by decide) ?_
        refine z_imul C0 dX2_improveFrom_30 ?_
        refine z_iload C0 hl 4 rfl dX2_improveFrom_31 ?_
        refine z_iadd C0 dX2_improveFrom_33 ?_
        refine y_iald C0 Wd (ynB3 b) (zkB3 hb) (zlB3 hb) (by omega) (by omega) (by decide) dX2_improveFrom_34 ?_
        obtain ⟨he7, hz5⟩ : ((zrow zM0 (b + 3) v15) (b + 3) ((x1 * 8) + (k15 : Int))) = (v15 ((x1 * 8) + (k15 : Int))) ∧ zR (v15 ((x1 * 8) + (k15 : Int))) := (fun q => ⟨q, q ▸ Wd.rm _ _⟩) (congrFun (zrow_same _ _ _) _)
        refine z_top (congrArg zI he7) ?_
        clear he7
        have hq1 := hbv (x1 * 8 + (k15 : Int)) (by omega) (by omega)
        have hq2 := hbv (x0 * 8 + (k15 : Int)) (by omega) (by omega)
        refine z_iadd C0 dX2_improveFrom_35 ?_
        refine z_istore C0 hl [(5, .int (zI ((zwr (8 * x0 + x1)) + (v15 ((x1 * 8) + (k15 : Int)))))), (0, .ref (ad (b + 1))), (1, .int (zI x0)), (2, .int (zI x1)), (3, .int (zI (zwr (8 * x0 + x1)))), (4, .int (zI (k15 : Int)))] (by decide) rfl dX2_improveFrom_36 (fun ls hl => ?_)
        refine z_iload C0 hl 0 rfl dX2_improveFrom_38 ?_
        refine z_aload_n C0 hl 1 rfl dX2_improveFrom_40 ?_
        refine yg_1_3 C0 Wd (ynB1 b) (zkB1 hb) zk_99 dX2_improveFrom_41 ?_
        refine z_rf (show ((b + 1) + 2) = (b + 3) by omega) ?_
        refine z_iload_n C0 hl 2 rfl dX2_improveFrom_44 ?_
        refine z_bipush C0 dX2_improveFrom_45 (by decide) ?_
        refine z_imul C0 dX2_improveFrom_47 ?_
        refine z_iload C0 hl 5 rfl dX2_improveFrom_48 ?_
        refine z_iadd C0 dX2_improveFrom_50 ?_
        refine y_iald C0 Wd (ynB3 b) (zkB3 hb) (zlB3 hb) (by omega) (by omega) (by decide) dX2_improveFrom_51 ?_
        obtain ⟨he10, hz8⟩ : ((zrow zM0 (b + 3) v15) (b + 3) ((x0 * 8) + (k15 : Int))) = (v15 ((x0 * 8) + (k15 : Int))) ∧ zR (v15 ((x0 * 8) + (k15 : Int))) := (fun q => ⟨q, q ▸ Wd.rm _ _⟩) (congrFun (zrow_same _ _ _) _)
        refine z_top (congrArg zI he10) ?_
        clear he10
        refine z_icmp_ge C0 (tgt := 69) (by have q0 := hz1.1; have p0 := hz1.2; have q1 := hz5.1; have p1 := hz5.2; exact zR_mk (by omega) (by omega)) hz8 dX2_improveFrom_52 (by decide) (fun c11 => ?_) (fun c11 => ?_)
        · skip
          refine z_iinc C0 hl 5 (t := (k15 : Int)) (u := ((k15 : Int) + 1)) rfl (by omega) [(4, .int (zI ((k15 : Int) + 1))), (5, .int (zI ((zwr (8 * x0 + x1)) + (v15 ((x1 * 8) + (k15 : Int)))))), (0, .ref (ad (b + 1))), (1, .int (zI x0)), (2, .int (zI x1)), (3, .int (zI (zwr (8 * x0 + x1))))] (by decide) rfl dX2_improveFrom_69 (fun ls hl => ?_)
          refine z_goto C0 (tgt := 15) dX2_improveFrom_72 (by decide) ?_
          exact ih15 (k15 + 1) (by omega) v15 (zfF_step hv (by first | exact Or.inl ⟨by assumption, rfl⟩ | exact Or.inr ⟨by omega, rfl⟩)) _ _ _ Wd (lv_sub hl [2, 3, 4, 5, 0] rfl)
        · skip
          refine z_aload_n C0 hl 1 rfl dX2_improveFrom_55 ?_
          refine yg_1_3 C0 Wd (ynB1 b) (zkB1 hb) zk_99 dX2_improveFrom_56 ?_
          refine z_rf (show ((b + 1) + 2) = (b + 3) by omega) ?_
          refine z_iload_n C0 hl 2 rfl dX2_improveFrom_59 ?_
          refine z_bipush C0 dX2_improveFrom_60 (by decide) ?_
          refine z_imul C0 dX2_improveFrom_62 ?_
          refine z_iload C0 hl 5 rfl dX2_improveFrom_63 ?_
          refine z_iadd C0 dX2_improveFrom_65 ?_
          refine z_iload C0 hl 0 rfl dX2_improveFrom_66 ?_
          refine y_iast yb_nd C0 Wd (ynB3 b) (zkB3 hb) (zlB3 hb) (by omega) (by omega) (by decide) (by have q0 := hz1.1; have p0 := hz1.2; have q1 := hz5.1; have p1 := hz5.2; exact zR_mk (by omega) (by omega)) dX2_improveFrom_68 (fun H locs Wd => ?_)
          refine z_iinc C0 hl 5 (t := (k15 : Int)) (u := ((k15 : Int) + 1)) rfl (by omega) [(4, .int (zI ((k15 : Int) + 1))), (5, .int (zI ((zwr (8 * x0 + x1)) + (v15 ((x1 * 8) + (k15 : Int)))))), (0, .ref (ad (b + 1))), (1, .int (zI x0)), (2, .int (zI x1)), (3, .int (zI (zwr (8 * x0 + x1))))] (by decide) rfl dX2_improveFrom_69 (fun ls hl => ?_)
          refine z_goto C0 (tgt := 15) dX2_improveFrom_72 (by decide) ?_
          exact ih15 (k15 + 1) (by omega) (zup v15 ((x0 * 8) + (k15 : Int)) ((zwr (8 * x0 + x1)) + (v15 ((x1 * 8) + (k15 : Int))))) (zfF_step hv (by first | exact Or.inl ⟨by assumption, rfl⟩ | exact Or.inr ⟨by omega, rfl⟩)) _ _ _ (by rw [← zu_zrow]; exact Wd) (lv_sub hl [2, 3, 4, 5, 0] rfl)
  exact lp15 8 0 (by omega) zwr rfl _ _ _ (by rw [← hW, zrow_eta]; exact Wd) (lv_sub hl [2, 3, 4, 1, 0] rfl)
set_option maxHeartbeats 4000000 in
set_option maxRecDepth 100000 in
theorem cy_X2_improveAllPairs (l : Launch) (g : zG) (ad : Int → Nat) (zM0 zF0 : zMem) (b : Int) (hb : zB b) (V : Int → Int) (ht : zRt b V zM0) (hT : ∀ i, 8 ≤ i → i < 72 → 0 ≤ V i ∧ V i ≤ 9) : yMt l yX2_improveAllPairs cX2_improveAllPairs 3 none 1 0 0 g (yb b) ad [.ref (ad (b + 1))] zM0 zF0 (zPv (fun M' F' => (∃ w : Int → Int, (∀ x y, zc8 x → zc8 y → w (8 * x + y) = zBF V x y) ∧ (zrow zM0 (b + 3) w) = M' ∧ zF0 = F'))) := by
  refine yMt.of "DrumWarren$Burrow" rfl (by decide +kernel) (Nat.le_of_ble_eq_true rfl) (fun {p e s m args below meth c ls} C0 Wd hl hret hlk hin => ?_)
  have hl : lv_has ls 3 [(0, .ref (ad (b + 1)))] := hl
  refine z_iconst C0 dX2_improveAllPairs_0 ?_
  refine z_istore_n C0 hl [(1, .int (zI 0)), (0, .ref (ad (b + 1)))] (by decide) rfl dX2_improveAllPairs_1 (fun ls hl => ?_)
  have aft2 : ∀ (k2 : Nat) (hk2 : (k2 : Int) ≤ 64) (v2 : Int → Int) (hv2 : ∀ i, 0 ≤ i → i < (k2 : Int) → v2 i = if V (8 + i) = 0 then 1000 else V (8 + i)) (hx2 : (k2 : Int) = 64) (H : Heap) (locs : List Loc) (ls : Array Slot) (Wd : yW g (yA (yb b) ad s.heap.size) s.heap (yb b) ad (zrow zM0 (b + 3) v2) zF0 H locs) (hl : lv_has ls 3 [(0, .ref (ad (b + 1))), (1, .int (zI (k2 : Int)))]), W p l e (zrm 1 0 0) s m args below meth c H locs 0 0 (yMQ below g (yb b) ad (zPv (fun M' F' => (∃ w : Int → Int, (∀ x y, zc8 x → zc8 y → w (8 * x + y) = zBF V x y) ∧ (zrow zM0 (b + 3) w) = M' ∧ zF0 = F'))) args s 0 0) (F0 m 41 ls []) := by
    intro k2 hk2 v2 hv2 hx2 H locs ls Wd hl
    replace hl : lv_has ls 3 [(0, .ref (ad (b + 1)))] := lv_sub hl [0] rfl
    have hv64 : ∀ i, 0 ≤ i → i < 64 → v2 i = if V (8 + i) = 0 then 1000 else V (8 + i) := fun i h0 h1 => hv2 i h0 (by omega)
    refine z_iconst C0 dX2_improveAllPairs_41 ?_
    refine z_istore_n C0 hl [(1, .int (zI 0)), (0, .ref (ad (b + 1)))] (by decide) rfl dX2_improveAllPairs_42 (fun ls hl => ?_)
    have aft43 : ∀ (k43 : Nat) (hk43 : (k43 : Int) ≤ 8) (v43 : Int → Int) (hv43 : ∀ i j, zc8 i → zc8 j → v43 (8 * i + j) = if i = j ∧ i < (k43 : Int) then 0 else (if V (8 + (8 * i + j)) = 0 then 1000 else V (8 + (8 * i + j)))) (hx43 : (k43 : Int) = 8) (H : Heap) (locs : List Loc) (ls : Array Slot) (Wd : yW g (yA (yb b) ad s.heap.size) s.heap (yb b) ad (zrow zM0 (b + 3) v43) zF0 H locs) (hl : lv_has ls 3 [(0, .ref (ad (b + 1))), (1, .int (zI (k43 : Int)))]), W p l e (zrm 1 0 0) s m args below meth c H locs 0 0 (yMQ below g (yb b) ad (zPv (fun M' F' => (∃ w : Int → Int, (∀ x y, zc8 x → zc8 y → w (8 * x + y) = zBF V x y) ∧ (zrow zM0 (b + 3) w) = M' ∧ zF0 = F'))) args s 0 0) (F0 m 67 ls []) := by
      intro k43 hk43 v43 hv43 hx43 H locs ls Wd hl
      replace hl : lv_has ls 3 [(0, .ref (ad (b + 1)))] := lv_sub hl [0] rfl
      have hw0 : ∀ i j, zc8 i → zc8 j → v43 (8 * i + j) = if i = j then 0 else (if V (8 + (8 * i + j)) = 0 then 1000 else V (8 + (8 * i + j))) := fun i j hi hj => by
          have := hi.1
          have := hi.2
          rw [hv43 i j hi hj]
          by_cases e : i = j <;> first | (rw [if_pos (by omega), if_pos e]; done) | (rw [if_neg (by omega), if_neg e]; done)
      have hb0 : zb64 v43 := fun i h0 h1 => by
          have e := hw0 (i / 8) (i % 8) ⟨by omega, by omega⟩ ⟨by omega, by omega⟩
          have hq := hT (8 + (8 * (i / 8) + i % 8)) (by omega) (by omega)
          rw [show 8 * (i / 8) + i % 8 = i by omega] at e hq
          rw [e]
          split
          · omega
          · split <;> omega
      refine z_iconst C0 dX2_improveAllPairs_67 ?_
      refine z_istore_n C0 hl [(1, .int (zI 0)), (0, .ref (ad (b + 1)))] (by decide) rfl dX2_improveAllPairs_68 (fun ls hl => ?_)
      have aft69 : ∀ (k69 : Nat) (hk69 : (k69 : Int) ≤ 8) (v69 : Int → Int) (hv69 : v69 = zfA k69 v43) (hx69 : (k69 : Int) = 8) (H : Heap) (locs : List Loc) (ls : Array Slot) (Wd : yW g (yA (yb b) ad s.heap.size) s.heap (yb b) ad (zrow zM0 (b + 3) v69) zF0 H locs) (hl : lv_has ls 3 [(0, .ref (ad (b + 1))), (1, .int (zI (k69 : Int)))]), W p l e (zrm 1 0 0) s m args below meth c H locs 0 0 (yMQ below g (yb b) ad (zPv (fun M' F' => (∃ w : Int → Int, (∀ x y, zc8 x → zc8 y → w (8 * x + y) = zBF V x y) ∧ (zrow zM0 (b + 3) w) = M' ∧ zF0 = F'))) args s 0 0) (F0 m 101 ls []) := by
        intro k69 hk69 v69 hv69 hx69 H locs ls Wd hl
        replace hl : lv_has ls 3 [(0, .ref (ad (b + 1)))] := lv_sub hl [0] rfl
        obtain rfl : k69 = 8 := by omega
        exact y_vret C0 Wd hret hlk ⟨_, fun x y hx hy => by rw [hv69]; exact zfA_BF hT hw0 hx hy, rfl, rfl⟩ dX2_improveAllPairs_101
      have lp69 : ∀ (d69 k69 : Nat) (hk69 : (k69 : Int) + d69 = 8) (v69 : Int → Int) (hv69 : v69 = zfA k69 v43) (H : Heap) (locs : List Loc) (ls : Array Slot) (Wd : yW g (yA (yb b) ad s.heap.size) s.heap (yb b) ad (zrow zM0 (b + 3) v69) zF0 H locs) (hl : lv_has ls 3 [(0, .ref (ad (b + 1))), (1, .int (zI (k69 : Int)))]), W p l e (zrm 1 0 0) s m args below meth c H locs 0 0 (yMQ below g (yb b) ad (zPv (fun M' F' => (∃ w : Int → Int, (∀ x y, zc8 x → zc8 y → w (8 * x + y) = zBF V x y) ∧ (zrow zM0 (b + 3) w) = M' ∧ zF0 = F'))) args s 0 0) (F0 m 69 ls []) := by
        intro d69
        induction d69 with
        | zero =>
          intro k69 hk69 v69 hv69 H locs ls Wd hl
          have hb69 := zfA_bd hb0 k69 (by omega)
          rw [← hv69] at hb69
          refine z_iload_n C0 hl 1 rfl dX2_improveAllPairs_69 ?_
          refine z_bipush C0 dX2_improveAllPairs_70 (by decide) ?_
          refine z_icmp_ge C0 (tgt := 101) (zR_mk (by omega) (by omega)) (zR_mk (by decide) (by decide)) dX2_improveAllPairs_72 (by decide) (fun c1 => ?_) (fun c1 => ?_)
          · skip
            first | exact aft69 k69 (by omega) v69 hv69 (by first | assumption | omega) _ _ _ Wd (lv_sub hl [0, 1] rfl) | (exfalso; omega)
          · skip
            exfalso; omega
        | succ d69 ih69 =>
          intro k69 hk69 v69 hv69 H locs ls Wd hl
          have hb69 := zfA_bd hb0 k69 (by omega)
          rw [← hv69] at hb69
          refine z_iload_n C0 hl 1 rfl dX2_improveAllPairs_69 ?_
          refine z_bipush C0 dX2_improveAllPairs_70 (by decide) ?_
          refine z_icmp_ge C0 (tgt := 101) (zR_mk (by omega) (by omega)) (zR_mk (by decide) (by decide)) dX2_improveAllPairs_72 (by decide) (fun c2 => ?_) (fun c2 => ?_)
          · skip
            first | exact aft69 k69 (by omega) v69 hv69 (by first | assumption | omega) _ _ _ Wd (lv_sub hl [0, 1] rfl) | (exfalso; omega)
          · skip
            refine z_iconst C0 dX2_improveAllPairs_75 ?_
            refine z_istore_n C0 hl [(2, .int (zI 0)), (0, .ref (ad (b + 1))), (1, .int (zI (k69 : Int)))] (by decide) rfl dX2_improveAllPairs_76 (fun ls hl => ?_)
            have aft77 : ∀ (k77 : Nat) (hk77 : (k77 : Int) ≤ 8) (v77 : Int → Int) (hv77 : v77 = zfR (k69 : Int) k77 v69) (hx77 : (k77 : Int) = 8) (H : Heap) (locs : List Loc) (ls : Array Slot) (Wd : yW g (yA (yb b) ad s.heap.size) s.heap (yb b) ad (zrow zM0 (b + 3) v77) zF0 H locs) (hl : lv_has ls 3 [(0, .ref (ad (b + 1))), (1, .int (zI (k69 : Int))), (2, .int (zI (k77 : Int)))]), W p l e (zrm 1 0 0) s m args below meth c H locs 0 0 (yMQ below g (yb b) ad (zPv (fun M' F' => (∃ w : Int → Int, (∀ x y, zc8 x → zc8 y → w (8 * x + y) = zBF V x y) ∧ (zrow zM0 (b + 3) w) = M' ∧ zF0 = F'))) args s 0 0) (F0 m 95 ls []) := by
              intro k77 hk77 v77 hv77 hx77 H locs ls Wd hl
              replace hl : lv_has ls 3 [(0, .ref (ad (b + 1))), (1, .int (zI (k69 : Int)))] := lv_sub hl [0, 1] rfl
              obtain rfl : k77 = 8 := by omega
              refine z_iinc C0 hl 1 (t := (k69 : Int)) (u := ((k69 : Int) + 1)) rfl (by omega) [(1, .int (zI ((k69 : Int) + 1))), (0, .ref (ad (b + 1)))] (by decide) rfl dX2_improveAllPairs_95 (fun ls hl => ?_)
              refine z_goto C0 (tgt := 69) dX2_improveAllPairs_98 (by decide) ?_
              exact ih69 (k69 + 1) (by omega) v77 (by rw [zfA_s, ← hv69]; assumption) _ _ _ Wd (lv_sub hl [1, 0] rfl)
            have lp77 : ∀ (d77 k77 : Nat) (hk77 : (k77 : Int) + d77 = 8) (v77 : Int → Int) (hv77 : v77 = zfR (k69 : Int) k77 v69) (H : Heap) (locs : List Loc) (ls : Array Slot) (Wd : yW g (yA (yb b) ad s.heap.size) s.heap (yb b) ad (zrow zM0 (b + 3) v77) zF0 H locs) (hl : lv_has ls 3 [(0, .ref (ad (b + 1))), (1, .int (zI (k69 : Int))), (2, .int (zI (k77 : Int)))]), W p l e (zrm 1 0 0) s m args below meth c H locs 0 0 (yMQ below g (yb b) ad (zPv (fun M' F' => (∃ w : Int → Int, (∀ x y, zc8 x → zc8 y → w (8 * x + y) = zBF V x y) ∧ (zrow zM0 (b + 3) w) = M' ∧ zF0 = F'))) args s 0 0) (F0 m 77 ls []) := by
              intro d77
              induction d77 with
              | zero =>
                intro k77 hk77 v77 hv77 H locs ls Wd hl
                have hb77 := zfR_bd (t := (k69 : Int)) ⟨by omega, by omega⟩ hb69 k77 (by omega)
                rw [← hv77] at hb77
                refine z_iload_n C0 hl 2 rfl dX2_improveAllPairs_77 ?_
                refine z_bipush C0 dX2_improveAllPairs_78 (by decide) ?_
                refine z_icmp_ge C0 (tgt := 95) (zR_mk (by omega) (by omega)) (zR_mk (by decide) (by decide)) dX2_improveAllPairs_80 (by decide) (fun c3 => ?_) (fun c3 => ?_)
                · skip
                  first | exact aft77 k77 (by omega) v77 hv77 (by first | assumption | omega) _ _ _ Wd (lv_sub hl [0, 1, 2] rfl) | (exfalso; omega)
                · skip
                  exfalso; omega
              | succ d77 ih77 =>
                intro k77 hk77 v77 hv77 H locs ls Wd hl
                have hb77 := zfR_bd (t := (k69 : Int)) ⟨by omega, by omega⟩ hb69 k77 (by omega)
                rw [← hv77] at hb77
                refine z_iload_n C0 hl 2 rfl dX2_improveAllPairs_77 ?_
                refine z_bipush C0 dX2_improveAllPairs_78 (by decide) ?_
                refine z_icmp_ge C0 (tgt := 95) (zR_mk (by omega) (by omega)) (zR_mk (by decide) (by decide)) dX2_improveAllPairs_80 (by decide) (fun c4 => ?_) (fun c4 => ?_)
                · skip
                  first | exact aft77 k77 (by omega) v77 hv77 (by first | assumption | omega) _ _ _ Wd (lv_sub hl [0, 1, 2] rfl) | (exfalso; omega)
                · skip
                  refine z_aload_n C0 hl 0 rfl dX2_improveAllPairs_83 ?_
                  refine z_iload_n C0 hl 2 rfl dX2_improveAllPairs_84 ?_
                  refine z_iload_n C0 hl 1 rfl dX2_improveAllPairs_85 ?_
                  refine y_invVv (As := [.int (zI (k77 : Int)), .int (zI (k69 : Int))]) (rest := []) C0 Wd (cy_X2_improveFrom l g ad (zrow zM0 (b + 3) v77) zF0 b hb v77 (k77 : Int) (zR_mk (by omega) (by omega)) (k69 : Int) (zR_mk (by omega) (by omega)) (zrow_same _ _ _) ⟨by omega, by omega⟩ ⟨by omega, by omega⟩ hb77) kv_X2_improveFrom (ynB1 b) (zE_1 (zkB1 hb)) rfl zk_89 rfl hl.1 rfl (Nat.le_of_ble_eq_true rfl) (by decide) (by decide) dX2_improveAllPairs_86 (fun zMr5 zFr5 H locs hp Wd => ?_)
                  obtain ⟨rfl, rfl⟩ := hp
                  refine z_iinc C0 hl 2 (t := (k77 : Int)) (u := ((k77 : Int) + 1)) rfl (by omega) [(2, .int (zI ((k77 : Int) + 1))), (0, .ref (ad (b + 1))), (1, .int (zI (k69 : Int)))] (by decide) rfl dX2_improveAllPairs_89 (fun ls hl => ?_)
                  refine z_goto C0 (tgt := 77) dX2_improveAllPairs_92 (by decide) ?_
                  exact ih77 (k77 + 1) (by omega) (zfF (k77 : Int) (k69 : Int) (v77 (8 * (k77 : Int) + (k69 : Int))) 8 v77) (by rw [zfR_s, ← hv77]) _ _ _ (Wd.mem (zrow_twice _ _ _ _)) (lv_sub hl [1, 2, 0] rfl)
            exact lp77 8 0 (by omega) v69 rfl _ _ _ Wd (lv_sub hl [1, 2, 0] rfl)
      exact lp69 8 0 (by omega) v43 rfl _ _ _ Wd (lv_sub hl [1, 0] rfl)
    have lp43 : ∀ (d43 k43 : Nat) (hk43 : (k43 : Int) + d43 = 8) (v43 : Int → Int) (hv43 : ∀ i j, zc8 i → zc8 j → v43 (8 * i + j) = if i = j ∧ i < (k43 : Int) then 0 else (if V (8 + (8 * i + j)) = 0 then 1000 else V (8 + (8 * i + j)))) (H : Heap) (locs : List Loc) (ls : Array Slot) (Wd : yW g (yA (yb b) ad s.heap.size) s.heap (yb b) ad (zrow zM0 (b + 3) v43) zF0 H locs) (hl : lv_has ls 3 [(0, .ref (ad (b + 1))), (1, .int (zI (k43 : Int)))]), W p l e (zrm 1 0 0) s m args below meth c H locs 0 0 (yMQ below g (yb b) ad (zPv (fun M' F' => (∃ w : Int → Int, (∀ x y, zc8 x → zc8 y → w (8 * x + y) = zBF V x y) ∧ (zrow zM0 (b + 3) w) = M' ∧ zF0 = F'))) args s 0 0) (F0 m 43 ls []) := by
      intro d43
      induction d43 with
      | zero =>
        intro k43 hk43 v43 hv43 H locs ls Wd hl
        refine z_iload_n C0 hl 1 rfl dX2_improveAllPairs_43 ?_
        refine z_bipush C0 dX2_improveAllPairs_44 (by decide) ?_
        refine z_icmp_ge C0 (tgt := 67) (zR_mk (by omega) (by omega)) (zR_mk (by decide) (by decide)) dX2_improveAllPairs_46 (by decide) (fun c7 => ?_) (fun c7 => ?_)
        · skip
          first | exact aft43 k43 (by omega) v43 hv43 (by first | assumption | omega) _ _ _ Wd (lv_sub hl [0, 1] rfl) | (exfalso; omega)
        · skip
          exfalso; omega
      | succ d43 ih43 =>
        intro k43 hk43 v43 hv43 H locs ls Wd hl
        refine z_iload_n C0 hl 1 rfl dX2_improveAllPairs_43 ?_
        refine z_bipush C0 dX2_improveAllPairs_44 (by decide) ?_
        refine z_icmp_ge C0 (tgt := 67) (zR_mk (by omega) (by omega)) (zR_mk (by decide) (by decide)) dX2_improveAllPairs_46 (by decide) (fun c8 => ?_) (fun c8 => ?_)
        · skip
          first | exact aft43 k43 (by omega) v43 hv43 (by first | assumption | omega) _ _ _ Wd (lv_sub hl [0, 1] rfl) | (exfalso; omega)
        · skip
          refine z_aload_n C0 hl 0 rfl dX2_improveAllPairs_49 ?_
          refine yg_1_3 C0 Wd (ynB1 b) (zkB1 hb) zk_99 dX2_improveAllPairs_50 ?_
          refine z_rf (show ((b + 1) + 2) = (b + 3) by omega) ?_
          refine z_iload_n C0 hl 1 rfl dX2_improveAllPairs_53 ?_
          refine z_bipush C0 dX2_improveAllPairs_54 (by decide) ?_
          refine z_imul C0 dX2_improveAllPairs_56 ?_
          refine z_iload_n C0 hl 1 rfl dX2_improveAllPairs_57 ?_
          refine z_iadd C0 dX2_improveAllPairs_58 ?_
          refine z_iconst C0 dX2_improveAllPairs_59 ?_
          refine y_iast yb_nd C0 Wd (ynB3 b) (zkB3 hb) (zlB3 hb) (by omega) (by omega) (by decide) (zR_mk (by decide) (by decide)) dX2_improveAllPairs_60 (fun H locs Wd => ?_)
          refine z_iinc C0 hl 1 (t := (k43 : Int)) (u := ((k43 : Int) + 1)) rfl (by omega) [(1, .int (zI ((k43 : Int) + 1))), (0, .ref (ad (b + 1)))] (by decide) rfl dX2_improveAllPairs_61 (fun ls hl => ?_)
          refine z_goto C0 (tgt := 43) dX2_improveAllPairs_64 (by decide) ?_
          exact ih43 (k43 + 1) (by omega) (zup v43 (((k43 : Int) * 8) + (k43 : Int)) 0) (fun i j hi hj => by have := hi.1; have := hi.2; have := hj.1; have := hj.2; by_cases e : 8 * i + j = (k43 : Int) * 8 + (k43 : Int) <;> first | (rw [zup_at e, if_pos (by omega)]; done) | (rw [zup_ne e, hv43 i j hi hj]; by_cases e2 : i = j ∧ i < (k43 : Int) <;> first | (rw [if_pos e2, if_pos (by omega)]; done) | (rw [if_neg e2, if_neg (show ¬ (i = j ∧ i < ((k43 + 1 : Nat) : Int)) by omega)]; done))) _ _ _ (by rw [← zu_zrow]; exact Wd) (lv_sub hl [1, 0] rfl)
    exact lp43 8 0 (by omega) v2 (fun i j hi hj => by have := hi.1; have := hi.2; have := hj.1; have := hj.2; rw [if_neg (by omega)]; exact hv64 (8 * i + j) (by omega) (by omega)) _ _ _ Wd (lv_sub hl [1, 0] rfl)
  have lp2 : ∀ (d2 k2 : Nat) (hk2 : (k2 : Int) + d2 = 64) (v2 : Int → Int) (hv2 : ∀ i, 0 ≤ i → i < (k2 : Int) → v2 i = if V (8 + i) = 0 then 1000 else V (8 + i)) (H : Heap) (locs : List Loc) (ls : Array Slot) (Wd : yW g (yA (yb b) ad s.heap.size) s.heap (yb b) ad (zrow zM0 (b + 3) v2) zF0 H locs) (hl : lv_has ls 3 [(0, .ref (ad (b + 1))), (1, .int (zI (k2 : Int)))]), W p l e (zrm 1 0 0) s m args below meth c H locs 0 0 (yMQ below g (yb b) ad (zPv (fun M' F' => (∃ w : Int → Int, (∀ x y, zc8 x → zc8 y → w (8 * x + y) = zBF V x y) ∧ (zrow zM0 (b + 3) w) = M' ∧ zF0 = F'))) args s 0 0) (F0 m 2 ls []) := by
    intro d2
    induction d2 with
    | zero =>
      intro k2 hk2 v2 hv2 H locs ls Wd hl
      refine z_iload_n C0 hl 1 rfl dX2_improveAllPairs_2 ?_
      refine z_bipush C0 dX2_improveAllPairs_3 (by decide) ?_
      refine z_icmp_ge C0 (tgt := 41) (zR_mk (by omega) (by omega)) (zR_mk (by decide) (by decide)) dX2_improveAllPairs_5 (by decide) (fun c9 => ?_) (fun c9 => ?_)
      · skip
        first | exact aft2 k2 (by omega) v2 hv2 (by first | assumption | omega) _ _ _ Wd (lv_sub hl [0, 1] rfl) | (exfalso; omega)
      · skip
        exfalso; omega
    | succ d2 ih2 =>
      intro k2 hk2 v2 hv2 H locs ls Wd hl
      refine z_iload_n C0 hl 1 rfl dX2_improveAllPairs_2 ?_
      refine z_bipush C0 dX2_improveAllPairs_3 (by decide) ?_
      refine z_icmp_ge C0 (tgt := 41) (zR_mk (by omega) (by omega)) (zR_mk (by decide) (by decide)) dX2_improveAllPairs_5 (by decide) (fun c10 => ?_) (fun c10 => ?_)
      · skip
        first | exact aft2 k2 (by omega) v2 hv2 (by first | assumption | omega) _ _ _ Wd (lv_sub hl [0, 1] rfl) | (exfalso; omega)
      · skip
        refine z_aload_n C0 hl 0 rfl dX2_improveAllPairs_8 ?_
        refine yg_1_3 C0 Wd (ynB1 b) (zkB1 hb) zk_99 dX2_improveAllPairs_9 ?_
        refine z_rf (show ((b + 1) + 2) = (b + 3) by omega) ?_
        refine z_iload_n C0 hl 1 rfl dX2_improveAllPairs_12 ?_
        refine z_aload_n C0 hl 0 rfl dX2_improveAllPairs_13 ?_
        refine yg_1_2 C0 Wd (ynB1 b) (zkB1 hb) zk_98 dX2_improveAllPairs_14 ?_
        refine z_rf (show ((b + 1) + 1) = (b + 2) by omega) ?_
        refine z_iload_n C0 hl 1 rfl dX2_improveAllPairs_17 ?_
        refine y_iald C0 Wd (ynB2 b) (zkB2 hb) (zlB2 hb) (by omega) (by omega) (by decide) dX2_improveAllPairs_18 ?_
        obtain ⟨he12, hz11⟩ : ((zrow zM0 (b + 3) v2) (b + 2) (k2 : Int)) = (V (8 + (k2 : Int))) ∧ zR (V (8 + (k2 : Int))) := (fun q => ⟨q, q ▸ Wd.rm _ _⟩) ((congrFun (zrow_ne (by omega)) _).trans (ht (k2 : Int) (by omega) (by omega)))
        refine z_top (congrArg zI he12) ?_
        clear he12
        have hq0 := ht (k2 : Int) (by omega) (by omega)
        have hq1 := hT (8 + (k2 : Int)) (by omega) (by omega)
        refine z_if_ne C0 (tgt := 28) hz11 dX2_improveAllPairs_19 (by decide) (fun c13 => ?_) (fun c13 => ?_)
        · skip
          refine z_aload_n C0 hl 0 rfl dX2_improveAllPairs_28 ?_
          refine yg_1_2 C0 Wd (ynB1 b) (zkB1 hb) zk_98 dX2_improveAllPairs_29 ?_
          refine z_rf (show ((b + 1) + 1) = (b + 2) by omega) ?_
          refine z_iload_n C0 hl 1 rfl dX2_improveAllPairs_32 ?_
          refine y_iald C0 Wd (ynB2 b) (zkB2 hb) (zlB2 hb) (by omega) (by omega) (by decide) dX2_improveAllPairs_33 ?_
          obtain ⟨he15, hz14⟩ : ((zrow zM0 (b + 3) v2) (b + 2) (k2 : Int)) = (V (8 + (k2 : Int))) ∧ zR (V (8 + (k2 : Int))) := (fun q => ⟨q, q ▸ Wd.rm _ _⟩) ((congrFun (zrow_ne (by omega)) _).trans (ht (k2 : Int) (by omega) (by omega)))
          refine z_top (congrArg zI he15) ?_
          clear he15
          refine y_iast yb_nd C0 Wd (ynB3 b) (zkB3 hb) (zlB3 hb) (by omega) (by omega) (by decide) hz14 dX2_improveAllPairs_34 (fun H locs Wd => ?_)
          refine z_iinc C0 hl 1 (t := (k2 : Int)) (u := ((k2 : Int) + 1)) rfl (by omega) [(1, .int (zI ((k2 : Int) + 1))), (0, .ref (ad (b + 1)))] (by decide) rfl dX2_improveAllPairs_35 (fun ls hl => ?_)
          refine z_goto C0 (tgt := 2) dX2_improveAllPairs_38 (by decide) ?_
          exact ih2 (k2 + 1) (by omega) (zup v2 (k2 : Int) (V (8 + (k2 : Int)))) (fun i h0 h1 => by by_cases e : i = (k2 : Int) <;> first | (rw [e, zup_same]; first | (rw [if_pos (by assumption)]; done) | (rw [if_neg (by assumption)]; done)) | (rw [zup_ne e]; exact hv2 i h0 (by omega))) _ _ _ (by rw [← zu_zrow]; exact Wd) (lv_sub hl [1, 0] rfl)
        · skip
          refine z_sipush C0 dX2_improveAllPairs_22 (by decide) ?_
          refine z_goto C0 (tgt := 34) dX2_improveAllPairs_25 (by decide) ?_
          refine y_iast yb_nd C0 Wd (ynB3 b) (zkB3 hb) (zlB3 hb) (by omega) (by omega) (by decide) (zR_mk (by decide) (by decide)) dX2_improveAllPairs_34 (fun H locs Wd => ?_)
          refine z_iinc C0 hl 1 (t := (k2 : Int)) (u := ((k2 : Int) + 1)) rfl (by omega) [(1, .int (zI ((k2 : Int) + 1))), (0, .ref (ad (b + 1)))] (by decide) rfl dX2_improveAllPairs_35 (fun ls hl => ?_)
          refine z_goto C0 (tgt := 2) dX2_improveAllPairs_38 (by decide) ?_
          exact ih2 (k2 + 1) (by omega) (zup v2 (k2 : Int) 1000) (fun i h0 h1 => by by_cases e : i = (k2 : Int) <;> first | (rw [e, zup_same]; first | (rw [if_pos (by assumption)]; done) | (rw [if_neg (by assumption)]; done)) | (rw [zup_ne e]; exact hv2 i h0 (by omega))) _ _ _ (by rw [← zu_zrow]; exact Wd) (lv_sub hl [1, 0] rfl)
  exact lp2 64 0 (by omega) (zM0 (b + 3)) (fun i h0 h1 => by omega) _ _ _ (by rw [zrow_eta]; exact Wd) (lv_sub hl [1, 0] rfl)

