/-! constructors -/
section RAW2

variable {g : zG} {A : Nat → Prop} {p : Program} {l : Launch} {e : Env} {R : Room} {s : State} {m : MethodId} {args : Array Value} {below : List Frame} {meth : Method} {c : Code} {H : Heap} {locs : List Loc} {cells slots : Nat} {Q : State → Prop}
variable {cc : ByteArray} {nL : Nat} {own : String} {pc : Nat} {ls : Array Slot} {rest st0 : List Value} {ws wc wr : va_W}
variable {post : Option Value → va_W → Prop} {mc ms : Nat} {a : Array Value}

variable {L : List Int} {ad : Int → Nat} {M F : zMem} {postY : Option Value → zMem → zMem → Prop}
theorem r_callY (hr : va_Run p l e R s m args below meth c H locs cells slots mc ms (F0 m pc ls st0) rest (yQ g L ad H.size postY a) (yA L ad H.size)) (C0 : zC g A p s m args c cc nL own) (Wd : rW g A s.heap (wr ++ yl g L ad M F) H locs)
    (kk : ∀ (v : Option Value) (M' F' : zMem) (H1 : Heap) (locs1 : List Loc), postY v M' F' → zRM M' → rW g A s.heap (wr ++ yl g L ad M' F') H1 locs1 → W p l e R s m args below meth c H1 locs1 (cells + mc) (slots + ms) Q (F0 m (pc + 3) ls (v.toList ++ rest))) : W p l e R s m args below meth c H locs cells slots Q (F0 m pc ls st0) := by
  have to1 : ∀ (M0 F0 : zMem) (sz q : Nat), yA L ad sz q → va_A (yl g L ad M0 F0) sz q := fun M0 F0 sz q h => by
    rcases h with ⟨i, hi, rfl⟩ | h
    · exact Or.inl ⟨L.idxOf i, _, yl_get hi⟩
    · exact Or.inr h
  have to2 : ∀ (M0 F0 : zMem) (sz q : Nat), va_A (yl g L ad M0 F0) sz q → yA L ad sz q := fun M0 F0 sz q h => by
    rcases h with ⟨k, e, h⟩ | h
    · unfold yl at h
      rw [List.getElem?_map] at h
      cases hl : L[k]? with
      | none => rw [hl] at h; cases h
      | some i =>
        rw [hl] at h
        exact Or.inl ⟨i, List.mem_of_getElem? hl, (congrArg Prod.fst (Option.some.inj h)).symm⟩
    · exact Or.inr h
  have hsub := rA_sub Wd C0.2.2.2
  intro T hT X
  obtain ⟨v, st₀, t, T', Lo, h0, X', hL, e1, e2, ⟨⟨v', M', F', hv, hp, hP1, hD1, hR1⟩, hz, hk⟩, st⟩ := hr T hT X
  cases hv
  rw [h0] at hz hk
  obtain ⟨j1, j2⟩ := r_join Wd.1 Wd.2.1 (H1 := T'.heap) (fun q h1 h2 => by rw [e1]; exact hk q h1 (fun z => h2 (to1 M F _ q z))) hsub (by rw [e1]; exact hP1) (hD1.weaken (fun _ q _ h => to1 M F _ q.1 h))
  obtain ⟨t2, a1, b1⟩ := kk v M' F' T'.heap (locs ++ Lo) hp hR1 ⟨j1, j2, Nat.le_trans Wd.2.2.1 (by rw [e1]; exact hz), fun q h1 h2 => by rw [e1, hk q (Nat.lt_of_lt_of_le h1 Wd.2.2.1) (fun z => h2 (hsub q (to1 M F _ q z)))]; exact Wd.2.2.2.1 q h1 h2, fun q hq => by
      rcases List.mem_append.mp hq with h | h
      · exact Wd.2.2.2.2 q h
      · exact hsub _ (to1 M F _ _ (hL q h))⟩ T' rfl X'
  exact ⟨t2, st t2 a1, b1⟩
theorem r_invY {P : zMem → zMem → Prop} {y : MethodName} {cc' : ByteArray} {nL' : Nat} {ret' : Option FieldType} {d n idx ci Nf : Nat} {i : Int} {C : String} {T : u_T} {fs As : List Value} (C0 : zC g A p s m args c cc nL own) (Wd : rW g A s.heap (wr ++ yl g L ad M F) H locs) (hRM : zRM M) (hM : yMt l y cc' nL' ret' d mc ms g L ad (.ref (ad i) :: As) M F (zPv P)) (kv : zKV y cc' nL' ret' C n) (hi : i ∈ L) (he : zE g ad i (M i) (F i) = .inr (ci, fs)) (hc : zCl[ci]? = some (C, T, Nf)) (hlink : Cond.methodLink own idx y ∈ zT) (hn : As.length = n) (hsz : ls.size = nL) (hst0 : st0 = As.reverse ++ .ref (ad i) :: rest) (hst : (rest.map fun v => v.category).sum ≤ 8) (hR : d + 1 ≤ R.frames ∧ 8 + (nL' + 11) + 60 * d ≤ R.locals) (hf : cells + mc ≤ R.cells ∧ slots + ms ≤ R.slots) (hdg : decode cc pc = .ok (.invokevirtual idx, 3))
    (kk : ∀ (M' F' : zMem) (H1 : Heap) (locs1 : List Loc), P M' F' → zRM M' → rW g A s.heap (wr ++ yl g L ad M' F') H1 locs1 → W p l e R s m args below meth c H1 locs1 (cells + mc) (slots + ms) Q (F0 m (pc + 3) ls rest)) : W p l e R s m args below meth c H locs cells slots Q (F0 m pc ls st0) := by
  obtain ⟨k1, k2, k3, k4, k5, k6, k7⟩ := kv
  have at1 : ∀ (k : Nat) (q : Nat × va_E), (yl g L ad M F)[k]? = some q → (wr ++ yl g L ad M F)[wr.length + k]? = some q := fun k q hq => by
    rw [List.getElem?_append_right (by omega), show wr.length + k - wr.length = k by omega]
    exact hq
  refine r_callY (va_runV (As := As) (rest := rest) C0.1 (hM H.size) ⟨z_callB C0 k1 k4 ⟨k5, k6, k7⟩ hlink hR, C0.1.2.2.2.2 _ k2, C0.1.2.2.2.2 _ k3⟩ ⟨yPre_blind, va_recv C0.2.1 Wd.1 (ci := ci) (q0 := wr.length + L.idxOf i) hc (at1 _ _ (by rw [yl_get hi, he])), ?_⟩ rfl hn hsz hst0 (lv_room hst) hdg hf) C0 Wd (fun v M' F' H1 locs1 hp hr hw => ?_)
  · intro U hU hW
    subst hU
    refine ⟨rfl, rfl, fun k q hq => Wd.1 _ q (at1 k q hq), va_K.moved hW.alike C0.2.1, ⟨fun i j x y hx hy e => ?_, fun _ _ _ => trivial⟩, hRM, zS.pass C0.2.2.1 Wd.2.2 hW.alike (fun h => zSb.warm hW h) rfl (fun q h => rA_sub Wd C0.2.2.2 q (by
      rcases h with ⟨i, hi, rfl⟩ | h
      · exact Or.inl ⟨L.idxOf i, _, yl_get hi⟩
      · exact Or.inr h))⟩
    have := Wd.2.1.1 _ _ x y (at1 i x hx) (at1 j y hy) e
    omega
  · obtain ⟨rfl, hp⟩ := hp
    exact kk M' F' H1 locs1 hp hr hw
theorem r_initN {host : String} {y : MethodName} {cc' : ByteArray} {nL' : Nat} {d n idx b : Nat} {As : List Value} (C0 : zC g A p s m args c cc nL own) (hAO : ∀ C ∈ zAOs, va_AO C s) (Wd : rW g A s.heap (wr ++ wc) H locs) (hM : rMt l y cc' nL' none d mc ms g (.ref b :: As) wc post) (kv : zKI y cc' nL' n) (hlink : va_Nw (.methodLinkNest own idx y host) s) (hn : As.length = n) (hsz : ls.size = nL) (hst0 : st0 = As.reverse ++ .ref b :: rest) (hst : (rest.map fun v => v.category).sum ≤ 8) (hR : d + 1 ≤ R.frames ∧ 8 + (nL' + 11) + 60 * d ≤ R.locals) (hf : cells + mc ≤ R.cells ∧ slots + ms ≤ R.slots) (hdg : decode cc pc = .ok (.invokespecial idx, 3))
    (kk : ∀ (v : Option Value) (w1 : va_W) (H1 : Heap) (locs1 : List Loc), post v w1 → rW g A s.heap (wr ++ w1) H1 locs1 → W p l e R s m args below meth c H1 locs1 (cells + mc) (slots + ms) Q (F0 m (pc + 3) ls (v.toList ++ rest))) : W p l e R s m args below meth c H locs cells slots Q (F0 m pc ls st0) := by
  obtain ⟨k1, k2, k3, k4, k5, k6, k7⟩ := kv
  exact r_call (va_runIN (As := As) (rest := rest) C0.1 (hM H.size) ⟨va_cnB n C0.1.2.2.2.2 (zGoodT k1) rfl rfl rfl hlink (C0.1.2.2.2.2 _ k3) ⟨k4, k5, k7⟩ hR, k6, C0.1.2.2.2.2 _ k2⟩ ⟨rPre_blind, rPre_of C0 hAO Wd _⟩ rfl hn hsz hst0 (lv_room hst) hdg hf) C0 Wd kk
theorem r_gets (C0 : zC g A p s m args c cc nL own) (Wd : rW g A s.heap ws H locs) {C n d : String} {v : Value} {idx : Nat} (hZ : va_Z C n d v A s s.heap) (hlink : Cond.fieldLink own idx C n d ∈ zT) (hdg : decode cc pc = .ok (.getstatic idx, 3)) (kk : W p l e R s m args below meth c H locs cells slots Q (F0 m (pc + 3) ls (v :: rest))) : W p l e R s m args below meth c H locs cells slots Q (F0 m pc ls rest) :=
  va_gets C0.1.1 C0.1.2.1 hZ Wd.2.2 C0.1.2.2.2.1 (C0.1.2.2.2.2 _ hlink) (fun _ h => h) hdg kk
theorem r_obj {idx b : Nat} (C0 : zC g A p s m args c cc nL own) (Wd : rW g A s.heap ws H locs) (hlink : Cond.methodLink own idx objectInit ∈ zT) (hsz : ls.size = nL) (hst : (rest.map fun v => v.category).sum ≤ 8) (hR : 1 ≤ R.frames ∧ 20 ≤ R.locals) (hdg : decode cc pc = .ok (.invokespecial idx, 3))
    (k : W p l e R s m args below meth c H locs cells slots Q (F0 m (pc + 3) ls rest)) : W p l e R s m args below meth c H locs cells slots Q (F0 m pc ls (.ref b :: rest)) := by
  intro T hT X
  obtain ⟨vm', X', st⟩ := X.initObject C0.1.1 C0.1.2.2.2.1 (C0.1.2.2.2.2 _ hlink) (C0.1.2.2.2.2 _ zk_71) (C0.1.2.2.2.2 _ zk_72) (g := F0 m pc ls (.ref b :: rest)) rfl (by show ls.size = _; rw [hsz, C0.1.2.2.1]) (rest := rest) rfl (by rw [C0.1.2.1]; exact hdg) hR.1 (by show 2 * 0 + _ + 12 ≤ _; omega)
  obtain ⟨t, a1, b1⟩ := k (T.setVm vm') hT X'
  exact ⟨t, st t a1, b1⟩
end RAW2
