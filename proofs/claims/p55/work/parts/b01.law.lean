/-! the law's helpers: methods with handlers -/
def hMt (l : Launch) (y : MethodName) (cc : ByteArray) (nL : Nat) (hh : List (Nat × Nat × Nat × Nat)) (d mc ms : Nat) (g : zG) (zX : va_W) (ad : Int → Nat) (av : List Value) (M F : zMem) (post : Option Value → zMem → zMem → Prop) : Prop :=
  l.stackTraces = false → ∀ sz, Met l y (Cond.codeWith y cc nL (some .int) hh :: zT) (zrm d mc ms) (va_Pc av (zPre g (0, 398, zX) ad M F sz)) (zQ g (0, 398, zX) ad sz post) mc ms (zA (0, 398, zX) ad sz)
theorem hMt.of {l : Launch} {y : MethodName} {cc : ByteArray} {nL : Nat} {hh : List (Nat × Nat × Nat × Nat)} {d mc ms : Nat} {g : zG} {zX : va_W} {ad : Int → Nat} {av : List Value} {M F : zMem} {post : Option Value → zMem → zMem → Prop} (own : String) (hown : y.cls = own) (hy : plainName y.cls = true) (hlen : (lg_sl av).length ≤ nL)
    (body : ∀ {p : Program} {e : Env} {s : State} {m : MethodId} {args : Array Value} {below : List Frame} {meth : Method} {c : Code} {ls : Array Slot}, zC g (zA (0, 398, zX) ad s.heap.size) p s m args c cc nL own → zW g (zA (0, 398, zX) ad s.heap.size) s.heap (0, 398, zX) ad M F s.heap [] → lv_has ls nL (lv_args 0 av) → meth.sig.returnType = some .int → meth.locks = false → l.stackTraces = false → c.exceptionTable.toList = Jvm.tableOf hh →
      W p l e (zrm d mc ms) s m args below meth c s.heap [] 0 0 (zMQ below g (0, 398, zX) ad post args s mc ms) (F0 m 0 ls [])) : hMt l y cc nL hh d mc ms g zX ad av M F post := by
  intro hst sz
  refine va_MetW (cc := cc) (maxL := nL) (ret := some .int) (hh := hh) hy rfl ?_
  intro p e s m args below meth c s₁ B hml hv
  obtain ⟨rfl, hsz, hP, hK, hD0, hRM, hZ⟩ := hv
  subst hsz
  have hts := atoms_spec (ws := Cond.codeWith y cc nL (some .int) hh :: zT) B.pre
  have htab := vx_table (x := y) (hh := hh) B (hts _ List.mem_cons_self)
  have hl := lv_entry av (n := nL) hlen
  rw [lg_entry_eq]
  generalize (lg_sl av ++ List.replicate (nL - (lg_sl av).length) Slot.unset).toArray = ls at hl ⊢
  have hD : va_D (zA (0, 398, zX) ad s.heap.size) (wl g (0, 398, zX) ad M F) := hD0.weaken (fun k q hk _ => by
    exact wl_A hk)
  exact body ⟨⟨B.exec, B.bytes, hml, by rw [← hown]; exact findClass_of_methodNamed B.named, fun w hw => hts w (List.mem_cons_of_mem _ hw)⟩, hK, hZ, fun q h => Or.inr h⟩ ⟨⟨hP, hD, va_S.rf⟩, hRM⟩ hl B.returns B.notSynchronized hst htab
theorem l_i2l {r : Int} (h : zR r) : (zI r).toInt64 = Int64.ofInt r := by
  apply Int64.toInt_inj.mp
  rw [Int32.toInt_toInt64, zI_tr h, Int64.toInt_ofInt, show Int64.size = 18446744073709551616 from rfl, Int.bmod_def]
  have := h.1
  have := h.2
  split <;> omega
section LAW

variable {g : zG} {A : Nat → Prop} {p : Program} {l : Launch} {e : Env} {R : Room} {s : State} {m : MethodId} {args : Array Value} {below : List Frame} {meth : Method} {c : Code} {H : Heap} {locs : List Loc} {cells slots : Nat} {Q : State → Prop}
variable {cc : ByteArray} {nL : Nat} {own : String} {pc : Nat} {N : zNs} {ls : Array Slot} {rest st0 : List Value} {ad : Int → Nat} {M F : zMem}
variable {mc ms : Nat} {a : Array Value}

variable {post' : Option Value → zMem → zMem → Prop} {px' : String → zMem → zMem → Prop}
theorem z_callH (hr : vx_Run p l e R s m args below meth c H locs cells slots mc ms (F0 m pc ls st0) rest (zQ g N ad H.size post' a) (zXC g N ad H.size px') (zA N ad H.size)) (C0 : zC g A p s m args c cc nL own) (Wd : zW g A s.heap N ad M F H locs)
    (kk : ∀ (v : Option Value) (M' F' : zMem) (H1 : Heap) (locs1 : List Loc), post' v M' F' → zW g A s.heap N ad M' F' H1 locs1 → W p l e R s m args below meth c H1 locs1 (cells + mc) (slots + ms) Q (F0 m (pc + 3) ls (v.toList ++ rest)))
    (kx : ∀ (E : String) (M' F' : zMem) (H1 : Heap) (locs1 : List Loc) (q : Addr) (ce : Cell), px' E M' F' → zW g A s.heap N ad M' F' H1 locs1 → H1[q]? = some ce → ce.vm = .none → s.vm.findClass E = some ce.cls → vx_W p l e R s m args below meth c H1 locs1 (cells + mc) (slots + ms) Q (F0 m pc ls rest) q) : W p l e R s m args below meth c H locs cells slots Q (F0 m pc ls st0) := by
  have hsub := zA_sub Wd C0.2.2.2
  intro T hT X
  rcases hr T hT X with ⟨v, st₀, t, T', L, h0, X', hL, e1, e2, ⟨⟨v', M', F', hv, hp, hP1, hD1, hR1⟩, hz, hk⟩, st⟩ | ⟨q, st₀, t, T', L, E, ce, h0, X', hL, e1, e2, ⟨⟨M', F', hp, hP1, hD1, hR1⟩, hz, hk⟩, hce, hcv, hcl, st⟩
  · cases hv
    rw [h0] at hz hk
    obtain ⟨t2, a1, b1⟩ := kk v M' F' T'.heap (locs ++ L) hp ⟨⟨by rw [e1]; exact hP1, hD1.weaken (fun _ q _ h => hsub q.1 h), Nat.le_trans Wd.1.2.2.1 (by rw [e1]; exact hz), fun q h1 h2 => by rw [e1, hk q (Nat.lt_of_lt_of_le h1 Wd.1.2.2.1) (fun z => h2 (hsub q z))]; exact Wd.1.2.2.2.1 q h1 h2, fun q hq => by
        rcases List.mem_append.mp hq with h | h
        · exact Wd.1.2.2.2.2 q h
        · exact hsub _ (hL q h)⟩, hR1⟩ T' rfl X'
    exact ⟨t2, st t2 a1, b1⟩
  · rw [h0] at hz hk
    have hWd : zW g A s.heap N ad M' F' T'.heap (locs ++ L) := ⟨⟨by rw [e1]; exact hP1, hD1.weaken (fun _ q _ h => hsub q.1 h), Nat.le_trans Wd.1.2.2.1 (by rw [e1]; exact hz), fun q h1 h2 => by rw [e1, hk q (Nat.lt_of_lt_of_le h1 Wd.1.2.2.1) (fun z => h2 (hsub q z))]; exact Wd.1.2.2.2.1 q h1 h2, fun q hq => by
        rcases List.mem_append.mp hq with h | h
        · exact Wd.1.2.2.2.2 q h
        · exact hsub _ (hL q h)⟩, hR1⟩
    obtain ⟨t2, a1, b1⟩ := kx E M' F' T'.heap (locs ++ L) q ce hp hWd (by rw [e1]; exact hce) hcv hcl T' rfl X'
    exact ⟨t2, st.trans a1, b1⟩
theorem z_invVH {y : MethodName} {cc' : ByteArray} {nL' : Nat} {ret' : Option FieldType} {d n idx ci Nf : Nat} {i : Int} {C : String} {T : u_T} {fs As : List Value} (C0 : zC g A p s m args c cc nL own) (Wd : zW g A s.heap N ad M F H locs) (hst9 : l.stackTraces = false) (hM : zMx l y cc' nL' ret' d mc ms g N ad (.ref (ad i) :: As) M F post' px') (kv : zKV y cc' nL' ret' C n) (hi : zIn N i) (he : zE g ad i (M i) (F i) = .inr (ci, fs)) (hc : zCl[ci]? = some (C, T, Nf)) (hlink : Cond.methodLink own idx y ∈ zT) (hn : As.length = n) (hsz : ls.size = nL) (hst0 : st0 = As.reverse ++ .ref (ad i) :: rest) (hst : (rest.map fun v => v.category).sum ≤ 8) (hR : d + 1 ≤ R.frames ∧ 8 + (nL' + 11) + 60 * d ≤ R.locals) (hf : cells + mc ≤ R.cells ∧ slots + ms ≤ R.slots) (hdg : decode cc pc = .ok (.invokevirtual idx, 3))
    (kk : ∀ (v : Option Value) (M' F' : zMem) (H1 : Heap) (locs1 : List Loc), post' v M' F' → zW g A s.heap N ad M' F' H1 locs1 → W p l e R s m args below meth c H1 locs1 (cells + mc) (slots + ms) Q (F0 m (pc + 3) ls (v.toList ++ rest)))
    (kx : ∀ (E : String) (M' F' : zMem) (H1 : Heap) (locs1 : List Loc) (q : Addr) (ce : Cell), px' E M' F' → zW g A s.heap N ad M' F' H1 locs1 → H1[q]? = some ce → ce.vm = .none → s.vm.findClass E = some ce.cls → vx_W p l e R s m args below meth c H1 locs1 (cells + mc) (slots + ms) Q (F0 m pc ls rest) q) : W p l e R s m args below meth c H locs cells slots Q (F0 m pc ls st0) := by
  obtain ⟨k1, k2, k3, k4, k5, k6, k7⟩ := kv
  exact z_callH (vx_runV (As := As) (rest := rest) C0.1 (hM hst9 H.size) ⟨z_callB C0 k1 k4 ⟨k5, k6, k7⟩ hlink hR, C0.1.2.2.2.2 _ k2, C0.1.2.2.2.2 _ k3⟩ ⟨zPre_blind, va_recv C0.2.1 Wd.1.1 (ci := ci) (q0 := (i - N.1).toNat) hc (by rw [wl_get hi, he]), zPre_of C0 Wd _⟩ rfl hn hsz hst0 (lv_room hst) hdg hf) C0 Wd kk kx
/-- one that is caught by the row x of the table -/
theorem z_catch {E : String} {hh : List (Nat × Nat × Nat × Nat)} {q : Addr} {ce : Cell} (C0 : zC g A p s m args c cc nL own) (htab : c.exceptionTable.toList = Jvm.tableOf hh) (pre : List (Nat × Nat × Nat × Nat)) (x : Nat × Nat × Nat × Nat) (suf : List (Nat × Nat × Nat × Nat)) (hsplit : hh = pre ++ x :: suf) (hpass : ∀ z ∈ pre, z.2.2.2 ≠ 0 ∧ ∃ nm : String, Cond.classLink own z.2.2.2 nm ∈ zT ∧ (E, nm) ∈ zNCas) (hx : x.1 ≤ pc ∧ pc < x.2.1) (h0 : x.2.2.2 ≠ 0) (hlink : Cond.classLink own x.2.2.2 E ∈ zT) (hcast : (E, E) ∈ zCas) (hcell : H[q]? = some ce) (hv : ce.vm = .none) (hcl : s.vm.findClass E = some ce.cls)
    (kk : W p l e R s m args below meth c H locs cells slots Q (F0 m x.2.2.1 ls [.ref q])) : vx_W p l e R s m args below meth c H locs cells slots Q (F0 m pc ls rest) q := by
  refine vx_catch (own := own) (name := E) (E := E) (ce := ce) C0.1.2.2.2.1 (Jvm.tableOf pre) ⟨x.1, x.2.1, x.2.2.1, x.2.2.2⟩ (Jvm.tableOf suf) ?_ ?_ ?_ h0 (C0.1.2.2.2.2 _ hlink) (va_Nw.use rfl (zc_ca C0 hcast)) hcell hv hcl kk
  · rw [htab, hsplit]
    unfold Jvm.tableOf
    rw [List.map_append, List.map_cons]
  · intro z hz
    unfold Jvm.tableOf at hz
    obtain ⟨z0, hz0, rfl⟩ := List.mem_map.mp hz
    obtain ⟨h1, nm, h2, h3⟩ := hpass z0 hz0
    exact Or.inr ⟨h1, nm, C0.1.2.2.2.2 _ h2, zc_nc C0 h3⟩
  · show (decide (x.1 ≤ pc) && decide (pc < x.2.1)) = true
    rw [decide_eq_true hx.1, decide_eq_true hx.2]
    rfl
theorem z_i2l {r : Int} (C0 : zC g A p s m args c cc nL own) (hr : zR r) (hdg : decode cc pc = .ok (.i2l, 1)) (k : W p l e R s m args below meth c H locs cells slots Q (F0 m (pc + 1) ls (.long (Int64.ofInt r) :: rest))) : W p l e R s m args below meth c H locs cells slots Q (F0 m pc ls (.int (zI r) :: rest)) := lv_i2l C0.1.1 C0.1.2.1 hdg (l_i2l hr) k
theorem z_lconst {n : Fin 2} (C0 : zC g A p s m args c cc nL own) (r : Int) (hdg : decode cc pc = .ok (.lconst n, 1)) (hv : Int64.ofNat (n : Nat) = Int64.ofInt r) (k : W p l e R s m args below meth c H locs cells slots Q (F0 m (pc + 1) ls (.long (Int64.ofInt r) :: rest))) : W p l e R s m args below meth c H locs cells slots Q (F0 m pc ls rest) := lv_lconst C0.1.1 C0.1.2.1 hdg hv k
theorem z_last {i : Int} {n : Nat} {t r : Int} (C0 : zC g A p s m args c cc nL own) (Wd : zW g A s.heap N ad M F H locs) (hi : zIn N i) (hk : zkd i = 18) (hn : zln i = n) (h0 : 0 ≤ t) (h1 : t < (n : Int)) (hN : n ≤ 2147483647) (hv : zR r) (hdg : decode cc pc = .ok (.lastore, 1)) (kk : ∀ (H1 : Heap) (locs1 : List Loc), zW g A s.heap N ad (zu M i t r) F H1 locs1 → W p l e R s m args below meth c H1 locs1 cells slots Q (F0 m (pc + 1) ls rest)) : W p l e R s m args below meth c H locs cells slots Q (F0 m pc ls (.long (Int64.ofInt r) :: .int (zI t) :: .ref (ad i) :: rest)) := by
  refine va_last C0.1.1 C0.1.2.1 C0.2.1 Wd.1.1 Wd.1.2.1 Wd.1.2.2 (i - N.1).toNat 7 (by rw [wl_get hi, zE_18 hk, hn]) rfl (zI_in h0 h1 (by omega)) hdg (fun H1 locs1 hP hD hS => ?_)
  have e9 : vp_updL (fun j : Nat => Int64.ofInt (M i (j : Int))) (zI t).toNatClampNeg (Int64.ofInt r) = fun j : Nat => Int64.ofInt (zu M i t r i (j : Int)) := by
    rw [zI_clamp h0 (by omega)]
    funext j
    show (if j = t.toNat then Int64.ofInt r else Int64.ofInt (M i (j : Int))) = _
    by_cases hj : j = t.toNat
    · subst hj
      rw [if_pos rfl, show ((t.toNat : Nat) : Int) = t by omega, zu_same]
    · rw [if_neg hj, zu_ne (by omega)]
  rw [e9] at hP hD
  rw [wl_put (M' := zu M i t r) (F' := F) hi (by rw [zE_18 hk, hn]) (fun a ha => zu_row ha) (fun _ _ => rfl)] at hP hD
  exact kk H1 locs1 ⟨⟨hP, hD, hS⟩, zRM_zu Wd.2 hv⟩
theorem z_lald {i : Int} {n : Nat} {t : Int} (C0 : zC g A p s m args c cc nL own) (Wd : zW g A s.heap N ad M F H locs) (hi : zIn N i) (hk : zkd i = 18) (hn : zln i = n) (h0 : 0 ≤ t) (h1 : t < (n : Int)) (hN : n ≤ 2147483647) (hdg : decode cc pc = .ok (.laload, 1)) (kk : W p l e R s m args below meth c H locs cells slots Q (F0 m (pc + 1) ls (.long (Int64.ofInt (M i t)) :: rest))) : W p l e R s m args below meth c H locs cells slots Q (F0 m pc ls (.int (zI t) :: .ref (ad i) :: rest)) := by
  refine va_lald C0.1.1 C0.1.2.1 C0.2.1 Wd.1.1 (i - N.1).toNat 7 (by rw [wl_get hi, zE_18 hk, hn]) rfl (zI_in h0 h1 (by omega)) hdg ?_
  rw [zI_clamp h0 (by omega), show ((t.toNat : Nat) : Int) = t by omega]
  exact kk
/-- two equal longs compared -/
theorem z_lcmpE {x y : Int} (C0 : zC g A p s m args c cc nL own) (h : x = y) (hdg : decode cc pc = .ok (.lcmp, 1)) (k : W p l e R s m args below meth c H locs cells slots Q (F0 m (pc + 1) ls (.int (zI 0) :: rest))) : W p l e R s m args below meth c H locs cells slots Q (F0 m pc ls (.long (Int64.ofInt y) :: .long (Int64.ofInt x) :: rest)) := by
  subst h
  refine W.lcmp C0.1.1 C0.1.2.1 hdg ?_
  rw [show lg_cmp (Int64.ofInt x) (Int64.ofInt x) = zI 0 by simp [lg_cmp]; rfl]
  exact k
/-- the bits of a double as a whole number -/
def dbi (x : UInt64) : Int := (x.toNat : Int)
theorem dbi_of (x : UInt64) : UInt64.ofNat (dbi x).toNat = x := by
  unfold dbi
  rw [Int.toNat_natCast]
  exact UInt64.ofNat_toNat
end LAW
